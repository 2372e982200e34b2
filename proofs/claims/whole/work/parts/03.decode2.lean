theorem dX6_area_11 : decode cX6_area 11 = .ok (.iload_n 1, 1) := by decide +kernel
theorem dX6_area_12 : decode cX6_area 12 = .ok (.invokevirtual 298, 3) := by decide +kernel
theorem dX6_area_15 : decode cX6_area 15 = .ok (.ireturn, 1) := by decide +kernel
theorem dX6_score_0 : decode cX6_score 0 = .ok (.aload_n 0, 1) := by decide +kernel
theorem dX6_score_1 : decode cX6_score 1 = .ok (.getfield 10, 3) := by decide +kernel
theorem dX6_score_4 : decode cX6_score 4 = .ok (.getfield 94, 3) := by decide +kernel
theorem dX6_score_7 : decode cX6_score 7 = .ok (.iconst 1, 1) := by decide +kernel
theorem dX6_score_8 : decode cX6_score 8 = .ok (.invokevirtual 298, 3) := by decide +kernel
theorem dX6_score_11 : decode cX6_score 11 = .ok (.aload_n 0, 1) := by decide +kernel
theorem dX6_score_12 : decode cX6_score 12 = .ok (.getfield 10, 3) := by decide +kernel
theorem dX6_score_15 : decode cX6_score 15 = .ok (.getfield 94, 3) := by decide +kernel
theorem dX6_score_18 : decode cX6_score 18 = .ok (.iconst 2, 1) := by decide +kernel
theorem dX6_score_19 : decode cX6_score 19 = .ok (.invokevirtual 298, 3) := by decide +kernel
theorem dX6_score_22 : decode cX6_score 22 = .ok (.isub, 1) := by decide +kernel
theorem dX6_score_23 : decode cX6_score 23 = .ok (.aload_n 0, 1) := by decide +kernel
theorem dX6_score_24 : decode cX6_score 24 = .ok (.getfield 10, 3) := by decide +kernel
theorem dX6_score_27 : decode cX6_score 27 = .ok (.getfield 93, 3) := by decide +kernel
theorem dX6_score_30 : decode cX6_score 30 = .ok (.isub, 1) := by decide +kernel
theorem dX6_score_31 : decode cX6_score 31 = .ok (.ireturn, 1) := by decide +kernel
theorem dX6_share_0 : decode cX6_share 0 = .ok (.iload_n 1, 1) := by decide +kernel
theorem dX6_share_1 : decode cX6_share 1 = .ok (.invokestatic 186, 3) := by decide +kernel
theorem dX6_share_4 : decode cX6_share 4 = .ok (.aload_n 0, 1) := by decide +kernel
theorem dX6_share_5 : decode cX6_share 5 = .ok (.getfield 10, 3) := by decide +kernel
theorem dX6_share_8 : decode cX6_share 8 = .ok (.getfield 94, 3) := by decide +kernel
theorem dX6_share_11 : decode cX6_share 11 = .ok (.getfield 107, 3) := by decide +kernel
theorem dX6_share_14 : decode cX6_share 14 = .ok (.getfield 232, 3) := by decide +kernel
theorem dX6_share_17 : decode cX6_share 17 = .ok (.istore_n 2, 1) := by decide +kernel
theorem dX6_share_18 : decode cX6_share 18 = .ok (.iload_n 2, 1) := by decide +kernel
theorem dX6_share_19 : decode cX6_share 19 = .ok (.iconst 1, 1) := by decide +kernel
theorem dX6_share_20 : decode cX6_share 20 = .ok (.if_icmp .ge 7, 3) := by decide +kernel
theorem dX6_share_23 : decode cX6_share 23 = .ok (.fconst 0, 1) := by decide +kernel
theorem dX6_share_24 : decode cX6_share 24 = .ok (.goto 18, 3) := by decide +kernel
theorem dX6_share_27 : decode cX6_share 27 = .ok (.aload_n 0, 1) := by decide +kernel
theorem dX6_share_28 : decode cX6_share 28 = .ok (.getfield 10, 3) := by decide +kernel
theorem dX6_share_31 : decode cX6_share 31 = .ok (.getfield 94, 3) := by decide +kernel
theorem dX6_share_34 : decode cX6_share 34 = .ok (.iload_n 1, 1) := by decide +kernel
theorem dX6_share_35 : decode cX6_share 35 = .ok (.invokevirtual 298, 3) := by decide +kernel
theorem dX6_share_38 : decode cX6_share 38 = .ok (.i2f, 1) := by decide +kernel
theorem dX6_share_39 : decode cX6_share 39 = .ok (.iload_n 2, 1) := by decide +kernel
theorem dX6_share_40 : decode cX6_share 40 = .ok (.i2f, 1) := by decide +kernel
theorem dX6_share_41 : decode cX6_share 41 = .ok (.fdiv, 1) := by decide +kernel
theorem dX6_share_42 : decode cX6_share 42 = .ok (.freturn, 1) := by decide +kernel
theorem dX6_writeRing_0 : decode cX6_writeRing 0 = .ok (.aload_n 0, 1) := by decide +kernel
theorem dX6_writeRing_1 : decode cX6_writeRing 1 = .ok (.iload_n 1, 1) := by decide +kernel
theorem dX6_writeRing_2 : decode cX6_writeRing 2 = .ok (.invokevirtual 141, 3) := by decide +kernel
theorem dX6_writeRing_5 : decode cX6_writeRing 5 = .ok (.aload_n 0, 1) := by decide +kernel
theorem dX6_writeRing_6 : decode cX6_writeRing 6 = .ok (.getfield 10, 3) := by decide +kernel
theorem dX6_writeRing_9 : decode cX6_writeRing 9 = .ok (.getfield 94, 3) := by decide +kernel
theorem dX6_writeRing_12 : decode cX6_writeRing 12 = .ok (.getfield 107, 3) := by decide +kernel
theorem dX6_writeRing_15 : decode cX6_writeRing 15 = .ok (.getfield 113, 3) := by decide +kernel
theorem dX6_writeRing_18 : decode cX6_writeRing 18 = .ok (.istore_n 2, 1) := by decide +kernel
theorem dX6_writeRing_19 : decode cX6_writeRing 19 = .ok (.iconst 0, 1) := by decide +kernel
theorem dX6_writeRing_20 : decode cX6_writeRing 20 = .ok (.istore_n 3, 1) := by decide +kernel
theorem dX6_writeRing_21 : decode cX6_writeRing 21 = .ok (.iload_n 3, 1) := by decide +kernel
theorem dX6_writeRing_22 : decode cX6_writeRing 22 = .ok (.iload_n 2, 1) := by decide +kernel
theorem dX6_writeRing_23 : decode cX6_writeRing 23 = .ok (.if_icmp .ge 34, 3) := by decide +kernel
theorem dX6_writeRing_26 : decode cX6_writeRing 26 = .ok (.iload_n 3, 1) := by decide +kernel
theorem dX6_writeRing_27 : decode cX6_writeRing 27 = .ok (.bipush 12, 2) := by decide +kernel
theorem dX6_writeRing_29 : decode cX6_writeRing 29 = .ok (.if_icmp .ge 28, 3) := by decide +kernel
theorem dX6_writeRing_32 : decode cX6_writeRing 32 = .ok (.aload_n 0, 1) := by decide +kernel
theorem dX6_writeRing_33 : decode cX6_writeRing 33 = .ok (.getfield 30, 3) := by decide +kernel
theorem dX6_writeRing_36 : decode cX6_writeRing 36 = .ok (.iload_n 3, 1) := by decide +kernel
theorem dX6_writeRing_37 : decode cX6_writeRing 37 = .ok (.aload_n 0, 1) := by decide +kernel
theorem dX6_writeRing_38 : decode cX6_writeRing 38 = .ok (.getfield 10, 3) := by decide +kernel
theorem dX6_writeRing_41 : decode cX6_writeRing 41 = .ok (.iload_n 2, 1) := by decide +kernel
theorem dX6_writeRing_42 : decode cX6_writeRing 42 = .ok (.iload_n 1, 1) := by decide +kernel
theorem dX6_writeRing_43 : decode cX6_writeRing 43 = .ok (.imul, 1) := by decide +kernel
theorem dX6_writeRing_44 : decode cX6_writeRing 44 = .ok (.iload_n 3, 1) := by decide +kernel
theorem dX6_writeRing_45 : decode cX6_writeRing 45 = .ok (.iadd, 1) := by decide +kernel
theorem dX6_writeRing_46 : decode cX6_writeRing 46 = .ok (.invokevirtual 301, 3) := by decide +kernel
theorem dX6_writeRing_49 : decode cX6_writeRing 49 = .ok (.i2b, 1) := by decide +kernel
theorem dX6_writeRing_50 : decode cX6_writeRing 50 = .ok (.bastore, 1) := by decide +kernel
theorem dX6_writeRing_51 : decode cX6_writeRing 51 = .ok (.iinc 3 1, 3) := by decide +kernel
theorem dX6_writeRing_54 : decode cX6_writeRing 54 = .ok (.goto (-33), 3) := by decide +kernel
theorem dX6_writeRing_57 : decode cX6_writeRing 57 = .ok (.aload_n 0, 1) := by decide +kernel
theorem dX6_writeRing_58 : decode cX6_writeRing 58 = .ok (.iload_n 2, 1) := by decide +kernel
theorem dX6_writeRing_59 : decode cX6_writeRing 59 = .ok (.putfield 38, 3) := by decide +kernel
theorem dX6_writeRing_62 : decode cX6_writeRing 62 = .ok (.iload_n 2, 1) := by decide +kernel
theorem dX6_writeRing_63 : decode cX6_writeRing 63 = .ok (.ireturn, 1) := by decide +kernel
theorem dX6_writtenByte_0 : decode cX6_writtenByte 0 = .ok (.iload_n 1, 1) := by decide +kernel
theorem dX6_writtenByte_1 : decode cX6_writtenByte 1 = .ok (.ifCond .lt 17, 3) := by decide +kernel
theorem dX6_writtenByte_4 : decode cX6_writtenByte 4 = .ok (.iload_n 1, 1) := by decide +kernel
theorem dX6_writtenByte_5 : decode cX6_writtenByte 5 = .ok (.aload_n 0, 1) := by decide +kernel
theorem dX6_writtenByte_6 : decode cX6_writtenByte 6 = .ok (.getfield 38, 3) := by decide +kernel
theorem dX6_writtenByte_9 : decode cX6_writtenByte 9 = .ok (.if_icmp .ge 9, 3) := by decide +kernel
theorem dX6_writtenByte_12 : decode cX6_writtenByte 12 = .ok (.iload_n 1, 1) := by decide +kernel
theorem dX6_writtenByte_13 : decode cX6_writtenByte 13 = .ok (.bipush 12, 2) := by decide +kernel
theorem dX6_writtenByte_15 : decode cX6_writtenByte 15 = .ok (.if_icmp .lt 14, 3) := by decide +kernel
theorem dX6_writtenByte_18 : decode cX6_writtenByte 18 = .ok (.new 144, 3) := by decide +kernel
theorem dX6_writtenByte_21 : decode cX6_writtenByte 21 = .ok (.dup, 1) := by decide +kernel
theorem dX6_writtenByte_22 : decode cX6_writtenByte 22 = .ok (.ldc_w 305, 3) := by decide +kernel
theorem dX6_writtenByte_25 : decode cX6_writtenByte 25 = .ok (.invokespecial 148, 3) := by decide +kernel
theorem dX6_writtenByte_28 : decode cX6_writtenByte 28 = .ok (.athrow, 1) := by decide +kernel
theorem dX6_writtenByte_29 : decode cX6_writtenByte 29 = .ok (.aload_n 0, 1) := by decide +kernel
theorem dX6_writtenByte_30 : decode cX6_writtenByte 30 = .ok (.getfield 30, 3) := by decide +kernel
theorem dX6_writtenByte_33 : decode cX6_writtenByte 33 = .ok (.iload_n 1, 1) := by decide +kernel
theorem dX6_writtenByte_34 : decode cX6_writtenByte 34 = .ok (.baload, 1) := by decide +kernel
theorem dX6_writtenByte_35 : decode cX6_writtenByte 35 = .ok (.ireturn, 1) := by decide +kernel
theorem dX6_undo_0 : decode cX6_undo 0 = .ok (.aload_n 0, 1) := by decide +kernel
theorem dX6_undo_1 : decode cX6_undo 1 = .ok (.getfield 34, 3) := by decide +kernel
theorem dX6_undo_4 : decode cX6_undo 4 = .ok (.iconst 1, 1) := by decide +kernel
theorem dX6_undo_5 : decode cX6_undo 5 = .ok (.if_icmp .ge 14, 3) := by decide +kernel
theorem dX6_undo_8 : decode cX6_undo 8 = .ok (.new 44, 3) := by decide +kernel
theorem dX6_undo_11 : decode cX6_undo 11 = .ok (.dup, 1) := by decide +kernel
theorem dX6_undo_12 : decode cX6_undo 12 = .ok (.ldc_w 307, 3) := by decide +kernel
theorem dX6_undo_15 : decode cX6_undo 15 = .ok (.invokespecial 48, 3) := by decide +kernel
theorem dX6_undo_18 : decode cX6_undo 18 = .ok (.athrow, 1) := by decide +kernel
theorem dX6_undo_19 : decode cX6_undo 19 = .ok (.aload_n 0, 1) := by decide +kernel
theorem dX6_undo_20 : decode cX6_undo 20 = .ok (.getfield 16, 3) := by decide +kernel
theorem dX6_undo_23 : decode cX6_undo 23 = .ok (.iconst 0, 1) := by decide +kernel
theorem dX6_undo_24 : decode cX6_undo 24 = .ok (.aaload, 1) := by decide +kernel
theorem dX6_undo_25 : decode cX6_undo 25 = .ok (.astore_n 1, 1) := by decide +kernel
theorem dX6_undo_26 : decode cX6_undo 26 = .ok (.aload_n 0, 1) := by decide +kernel
theorem dX6_undo_27 : decode cX6_undo 27 = .ok (.getfield 10, 3) := by decide +kernel
theorem dX6_undo_30 : decode cX6_undo 30 = .ok (.aload_n 1, 1) := by decide +kernel
theorem dX6_undo_31 : decode cX6_undo 31 = .ok (.invokevirtual 309, 3) := by decide +kernel
theorem dX6_undo_34 : decode cX6_undo 34 = .ok (.iconst 1, 1) := by decide +kernel
theorem dX6_undo_35 : decode cX6_undo 35 = .ok (.istore_n 2, 1) := by decide +kernel
theorem dX6_undo_36 : decode cX6_undo 36 = .ok (.iload_n 2, 1) := by decide +kernel
theorem dX6_undo_37 : decode cX6_undo 37 = .ok (.bipush 8, 2) := by decide +kernel
theorem dX6_undo_39 : decode cX6_undo 39 = .ok (.if_icmp .ge 23, 3) := by decide +kernel
theorem dX6_undo_42 : decode cX6_undo 42 = .ok (.aload_n 0, 1) := by decide +kernel
theorem dX6_undo_43 : decode cX6_undo 43 = .ok (.getfield 16, 3) := by decide +kernel
theorem dX6_undo_46 : decode cX6_undo 46 = .ok (.iload_n 2, 1) := by decide +kernel
theorem dX6_undo_47 : decode cX6_undo 47 = .ok (.iconst 1, 1) := by decide +kernel
theorem dX6_undo_48 : decode cX6_undo 48 = .ok (.isub, 1) := by decide +kernel
theorem dX6_undo_49 : decode cX6_undo 49 = .ok (.aload_n 0, 1) := by decide +kernel
theorem dX6_undo_50 : decode cX6_undo 50 = .ok (.getfield 16, 3) := by decide +kernel
theorem dX6_undo_53 : decode cX6_undo 53 = .ok (.iload_n 2, 1) := by decide +kernel
theorem dX6_undo_54 : decode cX6_undo 54 = .ok (.aaload, 1) := by decide +kernel
theorem dX6_undo_55 : decode cX6_undo 55 = .ok (.aastore, 1) := by decide +kernel
theorem dX6_undo_56 : decode cX6_undo 56 = .ok (.iinc 2 1, 3) := by decide +kernel
theorem dX6_undo_59 : decode cX6_undo 59 = .ok (.goto (-23), 3) := by decide +kernel
theorem dX6_undo_62 : decode cX6_undo 62 = .ok (.aload_n 0, 1) := by decide +kernel
theorem dX6_undo_63 : decode cX6_undo 63 = .ok (.getfield 16, 3) := by decide +kernel
theorem dX6_undo_66 : decode cX6_undo 66 = .ok (.bipush 7, 2) := by decide +kernel
theorem dX6_undo_68 : decode cX6_undo 68 = .ok (.aload_n 1, 1) := by decide +kernel
theorem dX6_undo_69 : decode cX6_undo 69 = .ok (.aastore, 1) := by decide +kernel
theorem dX6_undo_70 : decode cX6_undo 70 = .ok (.aload_n 0, 1) := by decide +kernel
theorem dX6_undo_71 : decode cX6_undo 71 = .ok (.dup, 1) := by decide +kernel
theorem dX6_undo_72 : decode cX6_undo 72 = .ok (.getfield 34, 3) := by decide +kernel
theorem dX6_undo_75 : decode cX6_undo 75 = .ok (.iconst 1, 1) := by decide +kernel
theorem dX6_undo_76 : decode cX6_undo 76 = .ok (.isub, 1) := by decide +kernel
theorem dX6_undo_77 : decode cX6_undo 77 = .ok (.putfield 34, 3) := by decide +kernel
theorem dX6_undo_80 : decode cX6_undo 80 = .ok (.aload_n 0, 1) := by decide +kernel
theorem dX6_undo_81 : decode cX6_undo 81 = .ok (.getfield 34, 3) := by decide +kernel
theorem dX6_undo_84 : decode cX6_undo 84 = .ok (.ireturn, 1) := by decide +kernel
theorem dX6_save_0 : decode cX6_save 0 = .ok (.iload_n 1, 1) := by decide +kernel
theorem dX6_save_1 : decode cX6_save 1 = .ok (.invokestatic 313, 3) := by decide +kernel
theorem dX6_save_4 : decode cX6_save 4 = .ok (.aload_n 0, 1) := by decide +kernel
theorem dX6_save_5 : decode cX6_save 5 = .ok (.getfield 20, 3) := by decide +kernel
theorem dX6_save_8 : decode cX6_save 8 = .ok (.iload_n 1, 1) := by decide +kernel
theorem dX6_save_9 : decode cX6_save 9 = .ok (.aaload, 1) := by decide +kernel
theorem dX6_save_10 : decode cX6_save 10 = .ok (.ifnonnull 16, 3) := by decide +kernel
theorem dX6_save_13 : decode cX6_save 13 = .ok (.aload_n 0, 1) := by decide +kernel
theorem dX6_save_14 : decode cX6_save 14 = .ok (.getfield 20, 3) := by decide +kernel
theorem dX6_save_17 : decode cX6_save 17 = .ok (.iload_n 1, 1) := by decide +kernel
theorem dX6_save_18 : decode cX6_save 18 = .ok (.new 7, 3) := by decide +kernel
theorem dX6_save_21 : decode cX6_save 21 = .ok (.dup, 1) := by decide +kernel
theorem dX6_save_22 : decode cX6_save 22 = .ok (.invokespecial 9, 3) := by decide +kernel
theorem dX6_save_25 : decode cX6_save 25 = .ok (.aastore, 1) := by decide +kernel
theorem dX6_save_26 : decode cX6_save 26 = .ok (.aload_n 0, 1) := by decide +kernel
theorem dX6_save_27 : decode cX6_save 27 = .ok (.getfield 20, 3) := by decide +kernel
theorem dX6_save_30 : decode cX6_save 30 = .ok (.iload_n 1, 1) := by decide +kernel
theorem dX6_save_31 : decode cX6_save 31 = .ok (.aaload, 1) := by decide +kernel
theorem dX6_save_32 : decode cX6_save 32 = .ok (.aload_n 0, 1) := by decide +kernel
theorem dX6_save_33 : decode cX6_save 33 = .ok (.getfield 10, 3) := by decide +kernel
theorem dX6_save_36 : decode cX6_save 36 = .ok (.invokevirtual 309, 3) := by decide +kernel
theorem dX6_save_39 : decode cX6_save 39 = .ok (.aload_n 0, 1) := by decide +kernel
theorem dX6_save_40 : decode cX6_save 40 = .ok (.getfield 10, 3) := by decide +kernel
theorem dX6_save_43 : decode cX6_save 43 = .ok (.getfield 94, 3) := by decide +kernel
theorem dX6_save_46 : decode cX6_save 46 = .ok (.invokevirtual 98, 3) := by decide +kernel
theorem dX6_save_49 : decode cX6_save 49 = .ok (.ireturn, 1) := by decide +kernel
theorem dX6_restore_0 : decode cX6_restore 0 = .ok (.iload_n 1, 1) := by decide +kernel
theorem dX6_restore_1 : decode cX6_restore 1 = .ok (.invokestatic 313, 3) := by decide +kernel
theorem dX6_restore_4 : decode cX6_restore 4 = .ok (.aload_n 0, 1) := by decide +kernel
theorem dX6_restore_5 : decode cX6_restore 5 = .ok (.getfield 20, 3) := by decide +kernel
theorem dX6_restore_8 : decode cX6_restore 8 = .ok (.iload_n 1, 1) := by decide +kernel
theorem dX6_restore_9 : decode cX6_restore 9 = .ok (.aaload, 1) := by decide +kernel
theorem dX6_restore_10 : decode cX6_restore 10 = .ok (.astore_n 2, 1) := by decide +kernel
theorem dX6_restore_11 : decode cX6_restore 11 = .ok (.aload_n 2, 1) := by decide +kernel
theorem dX6_restore_12 : decode cX6_restore 12 = .ok (.ifnonnull 14, 3) := by decide +kernel
theorem dX6_restore_15 : decode cX6_restore 15 = .ok (.new 44, 3) := by decide +kernel
theorem dX6_restore_18 : decode cX6_restore 18 = .ok (.dup, 1) := by decide +kernel
theorem dX6_restore_19 : decode cX6_restore 19 = .ok (.ldc_w 316, 3) := by decide +kernel
theorem dX6_restore_22 : decode cX6_restore 22 = .ok (.invokespecial 48, 3) := by decide +kernel
theorem dX6_restore_25 : decode cX6_restore 25 = .ok (.athrow, 1) := by decide +kernel
theorem dX6_restore_26 : decode cX6_restore 26 = .ok (.aload_n 0, 1) := by decide +kernel
theorem dX6_restore_27 : decode cX6_restore 27 = .ok (.invokevirtual 64, 3) := by decide +kernel
theorem dX6_restore_30 : decode cX6_restore 30 = .ok (.aload_n 0, 1) := by decide +kernel
theorem dX6_restore_31 : decode cX6_restore 31 = .ok (.getfield 10, 3) := by decide +kernel
theorem dX6_restore_34 : decode cX6_restore 34 = .ok (.aload_n 2, 1) := by decide +kernel
theorem dX6_restore_35 : decode cX6_restore 35 = .ok (.invokevirtual 309, 3) := by decide +kernel
theorem dX6_restore_38 : decode cX6_restore 38 = .ok (.aload_n 0, 1) := by decide +kernel
theorem dX6_restore_39 : decode cX6_restore 39 = .ok (.getfield 10, 3) := by decide +kernel
theorem dX6_restore_42 : decode cX6_restore 42 = .ok (.getfield 94, 3) := by decide +kernel
theorem dX6_restore_45 : decode cX6_restore 45 = .ok (.invokevirtual 98, 3) := by decide +kernel
theorem dX6_restore_48 : decode cX6_restore 48 = .ok (.ireturn, 1) := by decide +kernel
theorem dX6_differing_0 : decode cX6_differing 0 = .ok (.iload_n 1, 1) := by decide +kernel
theorem dX6_differing_1 : decode cX6_differing 1 = .ok (.invokestatic 313, 3) := by decide +kernel
theorem dX6_differing_4 : decode cX6_differing 4 = .ok (.aload_n 0, 1) := by decide +kernel
theorem dX6_differing_5 : decode cX6_differing 5 = .ok (.getfield 20, 3) := by decide +kernel
theorem dX6_differing_8 : decode cX6_differing 8 = .ok (.iload_n 1, 1) := by decide +kernel
theorem dX6_differing_9 : decode cX6_differing 9 = .ok (.aaload, 1) := by decide +kernel
theorem dX6_differing_10 : decode cX6_differing 10 = .ok (.astore_n 2, 1) := by decide +kernel
theorem dX6_differing_11 : decode cX6_differing 11 = .ok (.aload_n 2, 1) := by decide +kernel
theorem dX6_differing_12 : decode cX6_differing 12 = .ok (.ifnull 26, 3) := by decide +kernel
theorem dX6_differing_15 : decode cX6_differing 15 = .ok (.aload_n 2, 1) := by decide +kernel
theorem dX6_differing_16 : decode cX6_differing 16 = .ok (.getfield 94, 3) := by decide +kernel
theorem dX6_differing_19 : decode cX6_differing 19 = .ok (.getfield 107, 3) := by decide +kernel
theorem dX6_differing_22 : decode cX6_differing 22 = .ok (.aload_n 0, 1) := by decide +kernel
theorem dX6_differing_23 : decode cX6_differing 23 = .ok (.getfield 10, 3) := by decide +kernel
theorem dX6_differing_26 : decode cX6_differing 26 = .ok (.getfield 94, 3) := by decide +kernel
theorem dX6_differing_29 : decode cX6_differing 29 = .ok (.getfield 107, 3) := by decide +kernel
theorem dX6_differing_32 : decode cX6_differing 32 = .ok (.invokevirtual 318, 3) := by decide +kernel
theorem dX6_differing_35 : decode cX6_differing 35 = .ok (.ifCond .ne 5, 3) := by decide +kernel
theorem dX6_differing_38 : decode cX6_differing 38 = .ok (.iconst (-1), 1) := by decide +kernel
theorem dX6_differing_39 : decode cX6_differing 39 = .ok (.ireturn, 1) := by decide +kernel
theorem dX6_differing_40 : decode cX6_differing 40 = .ok (.aload_n 2, 1) := by decide +kernel
theorem dX6_differing_41 : decode cX6_differing 41 = .ok (.getfield 94, 3) := by decide +kernel
theorem dX6_differing_44 : decode cX6_differing 44 = .ok (.getfield 116, 3) := by decide +kernel
theorem dX6_differing_47 : decode cX6_differing 47 = .ok (.aload_n 0, 1) := by decide +kernel
theorem dX6_differing_48 : decode cX6_differing 48 = .ok (.getfield 10, 3) := by decide +kernel
theorem dX6_differing_51 : decode cX6_differing 51 = .ok (.getfield 94, 3) := by decide +kernel
theorem dX6_differing_54 : decode cX6_differing 54 = .ok (.getfield 116, 3) := by decide +kernel
theorem dX6_differing_57 : decode cX6_differing 57 = .ok (.lxor, 1) := by decide +kernel
theorem dX6_differing_58 : decode cX6_differing 58 = .ok (.lstore_n 3, 1) := by decide +kernel
theorem dX6_differing_59 : decode cX6_differing 59 = .ok (.aload_n 2, 1) := by decide +kernel
theorem dX6_differing_60 : decode cX6_differing 60 = .ok (.getfield 94, 3) := by decide +kernel
theorem dX6_differing_63 : decode cX6_differing 63 = .ok (.getfield 123, 3) := by decide +kernel
theorem dX6_differing_66 : decode cX6_differing 66 = .ok (.aload_n 0, 1) := by decide +kernel
theorem dX6_differing_67 : decode cX6_differing 67 = .ok (.getfield 10, 3) := by decide +kernel
theorem dX6_differing_70 : decode cX6_differing 70 = .ok (.getfield 94, 3) := by decide +kernel
theorem dX6_differing_73 : decode cX6_differing 73 = .ok (.getfield 123, 3) := by decide +kernel
theorem dX6_differing_76 : decode cX6_differing 76 = .ok (.lxor, 1) := by decide +kernel
theorem dX6_differing_77 : decode cX6_differing 77 = .ok (.lstore 5, 2) := by decide +kernel
theorem dX6_differing_79 : decode cX6_differing 79 = .ok (.lload_n 3, 1) := by decide +kernel
theorem dX6_differing_80 : decode cX6_differing 80 = .ok (.lload 5, 2) := by decide +kernel
theorem dX6_differing_82 : decode cX6_differing 82 = .ok (.lor, 1) := by decide +kernel
theorem dX6_differing_83 : decode cX6_differing 83 = .ok (.invokestatic 117, 3) := by decide +kernel
theorem dX6_differing_86 : decode cX6_differing 86 = .ok (.ireturn, 1) := by decide +kernel
theorem dX6_remember_0 : decode cX6_remember 0 = .ok (.aload_n 0, 1) := by decide +kernel
theorem dX6_remember_1 : decode cX6_remember 1 = .ok (.getfield 16, 3) := by decide +kernel
theorem dX6_remember_4 : decode cX6_remember 4 = .ok (.bipush 7, 2) := by decide +kernel
theorem dX6_remember_6 : decode cX6_remember 6 = .ok (.aaload, 1) := by decide +kernel
theorem dX6_remember_7 : decode cX6_remember 7 = .ok (.astore_n 1, 1) := by decide +kernel
theorem dX6_remember_8 : decode cX6_remember 8 = .ok (.bipush 7, 2) := by decide +kernel
theorem dX6_remember_10 : decode cX6_remember 10 = .ok (.istore_n 2, 1) := by decide +kernel
theorem dX6_remember_11 : decode cX6_remember 11 = .ok (.iload_n 2, 1) := by decide +kernel
theorem dX6_remember_12 : decode cX6_remember 12 = .ok (.ifCond .le 23, 3) := by decide +kernel
theorem dX6_remember_15 : decode cX6_remember 15 = .ok (.aload_n 0, 1) := by decide +kernel
theorem dX6_remember_16 : decode cX6_remember 16 = .ok (.getfield 16, 3) := by decide +kernel
theorem dX6_remember_19 : decode cX6_remember 19 = .ok (.iload_n 2, 1) := by decide +kernel
theorem dX6_remember_20 : decode cX6_remember 20 = .ok (.aload_n 0, 1) := by decide +kernel
theorem dX6_remember_21 : decode cX6_remember 21 = .ok (.getfield 16, 3) := by decide +kernel
theorem dX6_remember_24 : decode cX6_remember 24 = .ok (.iload_n 2, 1) := by decide +kernel
theorem dX6_remember_25 : decode cX6_remember 25 = .ok (.iconst 1, 1) := by decide +kernel
theorem dX6_remember_26 : decode cX6_remember 26 = .ok (.isub, 1) := by decide +kernel
theorem dX6_remember_27 : decode cX6_remember 27 = .ok (.aaload, 1) := by decide +kernel
theorem dX6_remember_28 : decode cX6_remember 28 = .ok (.aastore, 1) := by decide +kernel
theorem dX6_remember_29 : decode cX6_remember 29 = .ok (.iinc 2 (-1), 3) := by decide +kernel
theorem dX6_remember_32 : decode cX6_remember 32 = .ok (.goto (-21), 3) := by decide +kernel
theorem dX6_remember_35 : decode cX6_remember 35 = .ok (.aload_n 0, 1) := by decide +kernel
theorem dX6_remember_36 : decode cX6_remember 36 = .ok (.getfield 16, 3) := by decide +kernel
theorem dX6_remember_39 : decode cX6_remember 39 = .ok (.iconst 0, 1) := by decide +kernel
theorem dX6_remember_40 : decode cX6_remember 40 = .ok (.aload_n 1, 1) := by decide +kernel
theorem dX6_remember_41 : decode cX6_remember 41 = .ok (.aastore, 1) := by decide +kernel
theorem dX6_remember_42 : decode cX6_remember 42 = .ok (.aload_n 1, 1) := by decide +kernel
theorem dX6_remember_43 : decode cX6_remember 43 = .ok (.aload_n 0, 1) := by decide +kernel
theorem dX6_remember_44 : decode cX6_remember 44 = .ok (.getfield 10, 3) := by decide +kernel
theorem dX6_remember_47 : decode cX6_remember 47 = .ok (.invokevirtual 309, 3) := by decide +kernel
theorem dX6_remember_50 : decode cX6_remember 50 = .ok (.aload_n 0, 1) := by decide +kernel
theorem dX6_remember_51 : decode cX6_remember 51 = .ok (.aload_n 0, 1) := by decide +kernel
theorem dX6_remember_52 : decode cX6_remember 52 = .ok (.getfield 34, 3) := by decide +kernel
theorem dX6_remember_55 : decode cX6_remember 55 = .ok (.iconst 1, 1) := by decide +kernel
theorem dX6_remember_56 : decode cX6_remember 56 = .ok (.iadd, 1) := by decide +kernel
theorem dX6_remember_57 : decode cX6_remember 57 = .ok (.bipush 8, 2) := by decide +kernel
theorem dX6_remember_59 : decode cX6_remember 59 = .ok (.invokestatic 322, 3) := by decide +kernel
theorem dX6_remember_62 : decode cX6_remember 62 = .ok (.putfield 34, 3) := by decide +kernel
theorem dX6_remember_65 : decode cX6_remember 65 = .ok (.return_, 1) := by decide +kernel
theorem dX6_checkPlace_0 : decode cX6_checkPlace 0 = .ok (.iload_n 1, 1) := by decide +kernel
theorem dX6_checkPlace_1 : decode cX6_checkPlace 1 = .ok (.ifCond .lt 20, 3) := by decide +kernel
theorem dX6_checkPlace_4 : decode cX6_checkPlace 4 = .ok (.iload_n 1, 1) := by decide +kernel
theorem dX6_checkPlace_5 : decode cX6_checkPlace 5 = .ok (.aload_n 0, 1) := by decide +kernel
theorem dX6_checkPlace_6 : decode cX6_checkPlace 6 = .ok (.getfield 10, 3) := by decide +kernel
theorem dX6_checkPlace_9 : decode cX6_checkPlace 9 = .ok (.getfield 94, 3) := by decide +kernel
theorem dX6_checkPlace_12 : decode cX6_checkPlace 12 = .ok (.getfield 107, 3) := by decide +kernel
theorem dX6_checkPlace_15 : decode cX6_checkPlace 15 = .ok (.getfield 232, 3) := by decide +kernel
theorem dX6_checkPlace_18 : decode cX6_checkPlace 18 = .ok (.if_icmp .lt 14, 3) := by decide +kernel
theorem dX6_checkPlace_21 : decode cX6_checkPlace 21 = .ok (.new 144, 3) := by decide +kernel
theorem dX6_checkPlace_24 : decode cX6_checkPlace 24 = .ok (.dup, 1) := by decide +kernel
theorem dX6_checkPlace_25 : decode cX6_checkPlace 25 = .ok (.ldc_w 327, 3) := by decide +kernel
theorem dX6_checkPlace_28 : decode cX6_checkPlace 28 = .ok (.invokespecial 148, 3) := by decide +kernel
theorem dX6_checkPlace_31 : decode cX6_checkPlace 31 = .ok (.athrow, 1) := by decide +kernel
theorem dX6_checkPlace_32 : decode cX6_checkPlace 32 = .ok (.return_, 1) := by decide +kernel
theorem dX6_checkRing_0 : decode cX6_checkRing 0 = .ok (.iload_n 1, 1) := by decide +kernel
theorem dX6_checkRing_1 : decode cX6_checkRing 1 = .ok (.ifCond .lt 20, 3) := by decide +kernel
theorem dX6_checkRing_4 : decode cX6_checkRing 4 = .ok (.iload_n 1, 1) := by decide +kernel
theorem dX6_checkRing_5 : decode cX6_checkRing 5 = .ok (.aload_n 0, 1) := by decide +kernel
theorem dX6_checkRing_6 : decode cX6_checkRing 6 = .ok (.getfield 10, 3) := by decide +kernel
theorem dX6_checkRing_9 : decode cX6_checkRing 9 = .ok (.getfield 94, 3) := by decide +kernel
theorem dX6_checkRing_12 : decode cX6_checkRing 12 = .ok (.getfield 107, 3) := by decide +kernel
theorem dX6_checkRing_15 : decode cX6_checkRing 15 = .ok (.getfield 108, 3) := by decide +kernel
theorem dX6_checkRing_18 : decode cX6_checkRing 18 = .ok (.if_icmp .lt 14, 3) := by decide +kernel
theorem dX6_checkRing_21 : decode cX6_checkRing 21 = .ok (.new 144, 3) := by decide +kernel
theorem dX6_checkRing_24 : decode cX6_checkRing 24 = .ok (.dup, 1) := by decide +kernel
theorem dX6_checkRing_25 : decode cX6_checkRing 25 = .ok (.ldc_w 329, 3) := by decide +kernel
theorem dX6_checkRing_28 : decode cX6_checkRing 28 = .ok (.invokespecial 148, 3) := by decide +kernel
theorem dX6_checkRing_31 : decode cX6_checkRing 31 = .ok (.athrow, 1) := by decide +kernel
theorem dX6_checkRing_32 : decode cX6_checkRing 32 = .ok (.return_, 1) := by decide +kernel
theorem dX6_checkStoneAt_0 : decode cX6_checkStoneAt 0 = .ok (.aload_n 0, 1) := by decide +kernel
theorem dX6_checkStoneAt_1 : decode cX6_checkStoneAt 1 = .ok (.getfield 10, 3) := by decide +kernel
theorem dX6_checkStoneAt_4 : decode cX6_checkStoneAt 4 = .ok (.getfield 94, 3) := by decide +kernel
theorem dX6_checkStoneAt_7 : decode cX6_checkStoneAt 7 = .ok (.iload_n 1, 1) := by decide +kernel
theorem dX6_checkStoneAt_8 : decode cX6_checkStoneAt 8 = .ok (.invokevirtual 160, 3) := by decide +kernel
theorem dX6_checkStoneAt_11 : decode cX6_checkStoneAt 11 = .ok (.ifCond .ne 14, 3) := by decide +kernel
theorem dX6_checkStoneAt_14 : decode cX6_checkStoneAt 14 = .ok (.new 195, 3) := by decide +kernel
theorem dX6_checkStoneAt_17 : decode cX6_checkStoneAt 17 = .ok (.dup, 1) := by decide +kernel
theorem dX6_checkStoneAt_18 : decode cX6_checkStoneAt 18 = .ok (.ldc_w 331, 3) := by decide +kernel
theorem dX6_checkStoneAt_21 : decode cX6_checkStoneAt 21 = .ok (.invokespecial 199, 3) := by decide +kernel
theorem dX6_checkStoneAt_24 : decode cX6_checkStoneAt 24 = .ok (.athrow, 1) := by decide +kernel
theorem dX6_checkStoneAt_25 : decode cX6_checkStoneAt 25 = .ok (.return_, 1) := by decide +kernel
theorem dX6_checkSlot_0 : decode cX6_checkSlot 0 = .ok (.iload_n 0, 1) := by decide +kernel
theorem dX6_checkSlot_1 : decode cX6_checkSlot 1 = .ok (.ifCond .lt 8, 3) := by decide +kernel
theorem dX6_checkSlot_4 : decode cX6_checkSlot 4 = .ok (.iload_n 0, 1) := by decide +kernel
theorem dX6_checkSlot_5 : decode cX6_checkSlot 5 = .ok (.iconst 2, 1) := by decide +kernel
theorem dX6_checkSlot_6 : decode cX6_checkSlot 6 = .ok (.if_icmp .lt 14, 3) := by decide +kernel
theorem dX6_checkSlot_9 : decode cX6_checkSlot 9 = .ok (.new 144, 3) := by decide +kernel
theorem dX6_checkSlot_12 : decode cX6_checkSlot 12 = .ok (.dup, 1) := by decide +kernel
theorem dX6_checkSlot_13 : decode cX6_checkSlot 13 = .ok (.ldc_w 333, 3) := by decide +kernel
theorem dX6_checkSlot_16 : decode cX6_checkSlot 16 = .ok (.invokespecial 148, 3) := by decide +kernel
theorem dX6_checkSlot_19 : decode cX6_checkSlot 19 = .ok (.athrow, 1) := by decide +kernel
theorem dX6_checkSlot_20 : decode cX6_checkSlot 20 = .ok (.return_, 1) := by decide +kernel
theorem dX6_checkColour_0 : decode cX6_checkColour 0 = .ok (.iload_n 0, 1) := by decide +kernel
theorem dX6_checkColour_1 : decode cX6_checkColour 1 = .ok (.iconst 1, 1) := by decide +kernel
theorem dX6_checkColour_2 : decode cX6_checkColour 2 = .ok (.iconst 2, 1) := by decide +kernel
theorem dX6_checkColour_3 : decode cX6_checkColour 3 = .ok (.invokestatic 152, 3) := by decide +kernel
theorem dX6_checkColour_6 : decode cX6_checkColour 6 = .ok (.return_, 1) := by decide +kernel
theorem dX6_checkRange_0 : decode cX6_checkRange 0 = .ok (.iload_n 0, 1) := by decide +kernel
theorem dX6_checkRange_1 : decode cX6_checkRange 1 = .ok (.iload_n 1, 1) := by decide +kernel
theorem dX6_checkRange_2 : decode cX6_checkRange 2 = .ok (.if_icmp .lt 8, 3) := by decide +kernel
theorem dX6_checkRange_5 : decode cX6_checkRange 5 = .ok (.iload_n 0, 1) := by decide +kernel
theorem dX6_checkRange_6 : decode cX6_checkRange 6 = .ok (.iload_n 2, 1) := by decide +kernel
theorem dX6_checkRange_7 : decode cX6_checkRange 7 = .ok (.if_icmp .le 14, 3) := by decide +kernel
theorem dX6_checkRange_10 : decode cX6_checkRange 10 = .ok (.new 55, 3) := by decide +kernel
theorem dX6_checkRange_13 : decode cX6_checkRange 13 = .ok (.dup, 1) := by decide +kernel
theorem dX6_checkRange_14 : decode cX6_checkRange 14 = .ok (.ldc_w 335, 3) := by decide +kernel
theorem dX6_checkRange_17 : decode cX6_checkRange 17 = .ok (.invokespecial 59, 3) := by decide +kernel
theorem dX6_checkRange_20 : decode cX6_checkRange 20 = .ok (.athrow, 1) := by decide +kernel
theorem dX6_checkRange_21 : decode cX6_checkRange 21 = .ok (.return_, 1) := by decide +kernel
theorem dX6_lowestOf_0 : decode cX6_lowestOf 0 = .ok (.lload_n 0, 1) := by decide +kernel
theorem dX6_lowestOf_1 : decode cX6_lowestOf 1 = .ok (.lload_n 0, 1) := by decide +kernel
theorem dX6_lowestOf_2 : decode cX6_lowestOf 2 = .ok (.lneg, 1) := by decide +kernel
theorem dX6_lowestOf_3 : decode cX6_lowestOf 3 = .ok (.land, 1) := by decide +kernel
theorem dX6_lowestOf_4 : decode cX6_lowestOf 4 = .ok (.lconst 1, 1) := by decide +kernel
theorem dX6_lowestOf_5 : decode cX6_lowestOf 5 = .ok (.lsub, 1) := by decide +kernel
theorem dX6_lowestOf_6 : decode cX6_lowestOf 6 = .ok (.invokestatic 117, 3) := by decide +kernel
theorem dX6_lowestOf_9 : decode cX6_lowestOf 9 = .ok (.ireturn, 1) := by decide +kernel
theorem dX6_maskIf_0 : decode cX6_maskIf 0 = .ok (.iload_n 0, 1) := by decide +kernel
theorem dX6_maskIf_1 : decode cX6_maskIf 1 = .ok (.ifCond .eq 9, 3) := by decide +kernel
theorem dX6_maskIf_4 : decode cX6_maskIf 4 = .ok (.lconst 1, 1) := by decide +kernel
theorem dX6_maskIf_5 : decode cX6_maskIf 5 = .ok (.iload_n 1, 1) := by decide +kernel
theorem dX6_maskIf_6 : decode cX6_maskIf 6 = .ok (.lshl, 1) := by decide +kernel
theorem dX6_maskIf_7 : decode cX6_maskIf 7 = .ok (.goto 4, 3) := by decide +kernel
theorem dX6_maskIf_10 : decode cX6_maskIf 10 = .ok (.lconst 0, 1) := by decide +kernel
theorem dX6_maskIf_11 : decode cX6_maskIf 11 = .ok (.lreturn, 1) := by decide +kernel
theorem dX7_init_0 : decode cX7_init 0 = .ok (.aload_n 0, 1) := by decide +kernel
theorem dX7_init_1 : decode cX7_init 1 = .ok (.invokespecial 1, 3) := by decide +kernel
theorem dX7_init_4 : decode cX7_init 4 = .ok (.aload_n 0, 1) := by decide +kernel
theorem dX7_init_5 : decode cX7_init 5 = .ok (.bipush 73, 2) := by decide +kernel
theorem dX7_init_7 : decode cX7_init 7 = .ok (.newarray .long, 2) := by decide +kernel
theorem dX7_init_9 : decode cX7_init 9 = .ok (.putfield 7, 3) := by decide +kernel
theorem dX7_init_12 : decode cX7_init 12 = .ok (.aload_n 0, 1) := by decide +kernel
theorem dX7_init_13 : decode cX7_init 13 = .ok (.bipush 73, 2) := by decide +kernel
theorem dX7_init_15 : decode cX7_init 15 = .ok (.newarray .long, 2) := by decide +kernel
theorem dX7_init_17 : decode cX7_init 17 = .ok (.putfield 13, 3) := by decide +kernel
theorem dX7_init_20 : decode cX7_init 20 = .ok (.aload_n 0, 1) := by decide +kernel
theorem dX7_init_21 : decode cX7_init 21 = .ok (.sipush 584, 3) := by decide +kernel
theorem dX7_init_24 : decode cX7_init 24 = .ok (.newarray .long, 2) := by decide +kernel
theorem dX7_init_26 : decode cX7_init 26 = .ok (.putfield 16, 3) := by decide +kernel
theorem dX7_init_29 : decode cX7_init 29 = .ok (.aload_n 0, 1) := by decide +kernel
theorem dX7_init_30 : decode cX7_init 30 = .ok (.sipush 146, 3) := by decide +kernel
theorem dX7_init_33 : decode cX7_init 33 = .ok (.newarray .long, 2) := by decide +kernel
theorem dX7_init_35 : decode cX7_init 35 = .ok (.putfield 19, 3) := by decide +kernel
theorem dX7_init_38 : decode cX7_init 38 = .ok (.aload_n 0, 1) := by decide +kernel
theorem dX7_init_39 : decode cX7_init 39 = .ok (.iconst 2, 1) := by decide +kernel
theorem dX7_init_40 : decode cX7_init 40 = .ok (.newarray .boolean, 2) := by decide +kernel
theorem dX7_init_42 : decode cX7_init 42 = .ok (.putfield 22, 3) := by decide +kernel
theorem dX7_init_45 : decode cX7_init 45 = .ok (.aload_n 0, 1) := by decide +kernel
theorem dX7_init_46 : decode cX7_init 46 = .ok (.sipush 300, 3) := by decide +kernel
theorem dX7_init_49 : decode cX7_init 49 = .ok (.newarray .int, 2) := by decide +kernel
theorem dX7_init_51 : decode cX7_init 51 = .ok (.putfield 26, 3) := by decide +kernel
theorem dX7_init_54 : decode cX7_init 54 = .ok (.aload_n 0, 1) := by decide +kernel
theorem dX7_init_55 : decode cX7_init 55 = .ok (.iconst (-1), 1) := by decide +kernel
theorem dX7_init_56 : decode cX7_init 56 = .ok (.putfield 30, 3) := by decide +kernel
theorem dX7_init_59 : decode cX7_init 59 = .ok (.aload_n 0, 1) := by decide +kernel
theorem dX7_init_60 : decode cX7_init 60 = .ok (.bipush 12, 2) := by decide +kernel
theorem dX7_init_62 : decode cX7_init 62 = .ok (.newarray .int, 2) := by decide +kernel
theorem dX7_init_64 : decode cX7_init 64 = .ok (.putfield 34, 3) := by decide +kernel
theorem dX7_init_67 : decode cX7_init 67 = .ok (.aload_n 0, 1) := by decide +kernel
theorem dX7_init_68 : decode cX7_init 68 = .ok (.invokevirtual 37, 3) := by decide +kernel
theorem dX7_init_71 : decode cX7_init 71 = .ok (.aload_n 0, 1) := by decide +kernel
theorem dX7_init_72 : decode cX7_init 72 = .ok (.aload_n 0, 1) := by decide +kernel
theorem dX7_init_73 : decode cX7_init 73 = .ok (.getfield 13, 3) := by decide +kernel
theorem dX7_init_76 : decode cX7_init 76 = .ok (.iconst 0, 1) := by decide +kernel
theorem dX7_init_77 : decode cX7_init 77 = .ok (.invokevirtual 40, 3) := by decide +kernel
theorem dX7_init_80 : decode cX7_init 80 = .ok (.aload_n 0, 1) := by decide +kernel
theorem dX7_init_81 : decode cX7_init 81 = .ok (.invokevirtual 44, 3) := by decide +kernel
theorem dX7_init_84 : decode cX7_init 84 = .ok (.return_, 1) := by decide +kernel
theorem dX7_begins_0 : decode cX7_begins 0 = .ok (.iconst 0, 1) := by decide +kernel
theorem dX7_begins_1 : decode cX7_begins 1 = .ok (.istore_n 1, 1) := by decide +kernel
theorem dX7_begins_2 : decode cX7_begins 2 = .ok (.iload_n 1, 1) := by decide +kernel
theorem dX7_begins_3 : decode cX7_begins 3 = .ok (.bipush 73, 2) := by decide +kernel
theorem dX7_begins_5 : decode cX7_begins 5 = .ok (.if_icmp .ge 16, 3) := by decide +kernel
theorem dX7_begins_8 : decode cX7_begins 8 = .ok (.aload_n 0, 1) := by decide +kernel
theorem dX7_begins_9 : decode cX7_begins 9 = .ok (.getfield 13, 3) := by decide +kernel
theorem dX7_begins_12 : decode cX7_begins 12 = .ok (.iload_n 1, 1) := by decide +kernel
theorem dX7_begins_13 : decode cX7_begins 13 = .ok (.lconst 0, 1) := by decide +kernel
theorem dX7_begins_14 : decode cX7_begins 14 = .ok (.lastore, 1) := by decide +kernel
theorem dX7_begins_15 : decode cX7_begins 15 = .ok (.iinc 1 1, 3) := by decide +kernel
theorem dX7_begins_18 : decode cX7_begins 18 = .ok (.goto (-16), 3) := by decide +kernel
theorem dX7_begins_21 : decode cX7_begins 21 = .ok (.aload_n 0, 1) := by decide +kernel
theorem dX7_begins_22 : decode cX7_begins 22 = .ok (.getfield 13, 3) := by decide +kernel
theorem dX7_begins_25 : decode cX7_begins 25 = .ok (.iconst 0, 1) := by decide +kernel
theorem dX7_begins_26 : decode cX7_begins 26 = .ok (.lconst 1, 1) := by decide +kernel
theorem dX7_begins_27 : decode cX7_begins 27 = .ok (.lastore, 1) := by decide +kernel
theorem dX7_begins_28 : decode cX7_begins 28 = .ok (.aload_n 0, 1) := by decide +kernel
theorem dX7_begins_29 : decode cX7_begins 29 = .ok (.getfield 13, 3) := by decide +kernel
theorem dX7_begins_32 : decode cX7_begins 32 = .ok (.iconst 1, 1) := by decide +kernel
theorem dX7_begins_33 : decode cX7_begins 33 = .ok (.ldc2_w 47, 3) := by decide +kernel
theorem dX7_begins_36 : decode cX7_begins 36 = .ok (.lastore, 1) := by decide +kernel
theorem dX7_begins_37 : decode cX7_begins 37 = .ok (.aload_n 0, 1) := by decide +kernel
theorem dX7_begins_38 : decode cX7_begins 38 = .ok (.getfield 13, 3) := by decide +kernel
theorem dX7_begins_41 : decode cX7_begins 41 = .ok (.iconst 2, 1) := by decide +kernel
theorem dX7_begins_42 : decode cX7_begins 42 = .ok (.lconst 1, 1) := by decide +kernel
theorem dX7_begins_43 : decode cX7_begins 43 = .ok (.lastore, 1) := by decide +kernel
theorem dX7_begins_44 : decode cX7_begins 44 = .ok (.aload_n 0, 1) := by decide +kernel
theorem dX7_begins_45 : decode cX7_begins 45 = .ok (.getfield 13, 3) := by decide +kernel
theorem dX7_begins_48 : decode cX7_begins 48 = .ok (.bipush 7, 2) := by decide +kernel
theorem dX7_begins_50 : decode cX7_begins 50 = .ok (.ldc2_w 49, 3) := by decide +kernel
theorem dX7_begins_53 : decode cX7_begins 53 = .ok (.lastore, 1) := by decide +kernel
theorem dX7_begins_54 : decode cX7_begins 54 = .ok (.return_, 1) := by decide +kernel
theorem dX7_becomes_0 : decode cX7_becomes 0 = .ok (.iconst 0, 1) := by decide +kernel
theorem dX7_becomes_1 : decode cX7_becomes 1 = .ok (.istore_n 3, 1) := by decide +kernel
theorem dX7_becomes_2 : decode cX7_becomes 2 = .ok (.iload_n 3, 1) := by decide +kernel
theorem dX7_becomes_3 : decode cX7_becomes 3 = .ok (.bipush 73, 2) := by decide +kernel
theorem dX7_becomes_5 : decode cX7_becomes 5 = .ok (.if_icmp .ge 20, 3) := by decide +kernel
theorem dX7_becomes_8 : decode cX7_becomes 8 = .ok (.aload_n 0, 1) := by decide +kernel
theorem dX7_becomes_9 : decode cX7_becomes 9 = .ok (.getfield 7, 3) := by decide +kernel
theorem dX7_becomes_12 : decode cX7_becomes 12 = .ok (.iload_n 3, 1) := by decide +kernel
theorem dX7_becomes_13 : decode cX7_becomes 13 = .ok (.aload_n 1, 1) := by decide +kernel
theorem dX7_becomes_14 : decode cX7_becomes 14 = .ok (.iload_n 2, 1) := by decide +kernel
theorem dX7_becomes_15 : decode cX7_becomes 15 = .ok (.iload_n 3, 1) := by decide +kernel
theorem dX7_becomes_16 : decode cX7_becomes 16 = .ok (.iadd, 1) := by decide +kernel
theorem dX7_becomes_17 : decode cX7_becomes 17 = .ok (.laload, 1) := by decide +kernel
theorem dX7_becomes_18 : decode cX7_becomes 18 = .ok (.lastore, 1) := by decide +kernel
theorem dX7_becomes_19 : decode cX7_becomes 19 = .ok (.iinc 3 1, 3) := by decide +kernel
theorem dX7_becomes_22 : decode cX7_becomes 22 = .ok (.goto (-20), 3) := by decide +kernel
theorem dX7_becomes_25 : decode cX7_becomes 25 = .ok (.return_, 1) := by decide +kernel
theorem dX7_thrown_0 : decode cX7_thrown 0 = .ok (.aload_n 0, 1) := by decide +kernel
theorem dX7_thrown_1 : decode cX7_thrown 1 = .ok (.getfield 51, 3) := by decide +kernel
theorem dX7_thrown_4 : decode cX7_thrown 4 = .ok (.ireturn, 1) := by decide +kernel
theorem dX7_isIn_0 : decode cX7_isIn 0 = .ok (.lload_n 0, 1) := by decide +kernel
theorem dX7_isIn_1 : decode cX7_isIn 1 = .ok (.lload_n 2, 1) := by decide +kernel
theorem dX7_isIn_2 : decode cX7_isIn 2 = .ok (.lcmp, 1) := by decide +kernel
theorem dX7_isIn_3 : decode cX7_isIn 3 = .ok (.ifCond .lt 14, 3) := by decide +kernel
theorem dX7_isIn_6 : decode cX7_isIn 6 = .ok (.lload_n 0, 1) := by decide +kernel
theorem dX7_isIn_7 : decode cX7_isIn 7 = .ok (.lload 4, 2) := by decide +kernel
theorem dX7_isIn_9 : decode cX7_isIn 9 = .ok (.lcmp, 1) := by decide +kernel
theorem dX7_isIn_10 : decode cX7_isIn 10 = .ok (.ifCond .gt 7, 3) := by decide +kernel
theorem dX7_isIn_13 : decode cX7_isIn 13 = .ok (.iconst 1, 1) := by decide +kernel
theorem dX7_isIn_14 : decode cX7_isIn 14 = .ok (.goto 4, 3) := by decide +kernel
theorem dX7_isIn_17 : decode cX7_isIn 17 = .ok (.iconst 0, 1) := by decide +kernel
theorem dX7_isIn_18 : decode cX7_isIn 18 = .ok (.ireturn, 1) := by decide +kernel
theorem dX7_keeps_0 : decode cX7_keeps 0 = .ok (.aload_n 0, 1) := by decide +kernel
theorem dX7_keeps_1 : decode cX7_keeps 1 = .ok (.getfield 54, 3) := by decide +kernel
theorem dX7_keeps_4 : decode cX7_keeps 4 = .ok (.bipush 8, 2) := by decide +kernel
theorem dX7_keeps_6 : decode cX7_keeps 6 = .ok (.if_icmp .ne 43, 3) := by decide +kernel
theorem dX7_keeps_9 : decode cX7_keeps 9 = .ok (.iconst 0, 1) := by decide +kernel
theorem dX7_keeps_10 : decode cX7_keeps 10 = .ok (.istore_n 1, 1) := by decide +kernel
theorem dX7_keeps_11 : decode cX7_keeps 11 = .ok (.iload_n 1, 1) := by decide +kernel
theorem dX7_keeps_12 : decode cX7_keeps 12 = .ok (.sipush 511, 3) := by decide +kernel
theorem dX7_keeps_15 : decode cX7_keeps 15 = .ok (.if_icmp .ge 24, 3) := by decide +kernel
theorem dX7_keeps_18 : decode cX7_keeps 18 = .ok (.aload_n 0, 1) := by decide +kernel
theorem dX7_keeps_19 : decode cX7_keeps 19 = .ok (.getfield 16, 3) := by decide +kernel
theorem dX7_keeps_22 : decode cX7_keeps 22 = .ok (.iload_n 1, 1) := by decide +kernel
theorem dX7_keeps_23 : decode cX7_keeps 23 = .ok (.aload_n 0, 1) := by decide +kernel
theorem dX7_keeps_24 : decode cX7_keeps 24 = .ok (.getfield 16, 3) := by decide +kernel
theorem dX7_keeps_27 : decode cX7_keeps 27 = .ok (.iload_n 1, 1) := by decide +kernel
theorem dX7_keeps_28 : decode cX7_keeps 28 = .ok (.bipush 73, 2) := by decide +kernel
theorem dX7_keeps_30 : decode cX7_keeps 30 = .ok (.iadd, 1) := by decide +kernel
theorem dX7_keeps_31 : decode cX7_keeps 31 = .ok (.laload, 1) := by decide +kernel
theorem dX7_keeps_32 : decode cX7_keeps 32 = .ok (.lastore, 1) := by decide +kernel
theorem dX7_keeps_33 : decode cX7_keeps 33 = .ok (.iinc 1 1, 3) := by decide +kernel
theorem dX7_keeps_36 : decode cX7_keeps 36 = .ok (.goto (-25), 3) := by decide +kernel
theorem dX7_keeps_39 : decode cX7_keeps 39 = .ok (.aload_n 0, 1) := by decide +kernel
theorem dX7_keeps_40 : decode cX7_keeps 40 = .ok (.dup, 1) := by decide +kernel
theorem dX7_keeps_41 : decode cX7_keeps 41 = .ok (.getfield 54, 3) := by decide +kernel
theorem dX7_keeps_44 : decode cX7_keeps 44 = .ok (.iconst 1, 1) := by decide +kernel
theorem dX7_keeps_45 : decode cX7_keeps 45 = .ok (.isub, 1) := by decide +kernel
theorem dX7_keeps_46 : decode cX7_keeps 46 = .ok (.putfield 54, 3) := by decide +kernel
theorem dX7_keeps_49 : decode cX7_keeps 49 = .ok (.iconst 0, 1) := by decide +kernel
theorem dX7_keeps_50 : decode cX7_keeps 50 = .ok (.istore_n 1, 1) := by decide +kernel
theorem dX7_keeps_51 : decode cX7_keeps 51 = .ok (.iload_n 1, 1) := by decide +kernel
theorem dX7_keeps_52 : decode cX7_keeps 52 = .ok (.bipush 73, 2) := by decide +kernel
theorem dX7_keeps_54 : decode cX7_keeps 54 = .ok (.if_icmp .ge 29, 3) := by decide +kernel
theorem dX7_keeps_57 : decode cX7_keeps 57 = .ok (.aload_n 0, 1) := by decide +kernel
theorem dX7_keeps_58 : decode cX7_keeps 58 = .ok (.getfield 16, 3) := by decide +kernel
theorem dX7_keeps_61 : decode cX7_keeps 61 = .ok (.bipush 73, 2) := by decide +kernel
theorem dX7_keeps_63 : decode cX7_keeps 63 = .ok (.aload_n 0, 1) := by decide +kernel
theorem dX7_keeps_64 : decode cX7_keeps 64 = .ok (.getfield 54, 3) := by decide +kernel
theorem dX7_keeps_67 : decode cX7_keeps 67 = .ok (.imul, 1) := by decide +kernel
theorem dX7_keeps_68 : decode cX7_keeps 68 = .ok (.iload_n 1, 1) := by decide +kernel
theorem dX7_keeps_69 : decode cX7_keeps 69 = .ok (.iadd, 1) := by decide +kernel
theorem dX7_keeps_70 : decode cX7_keeps 70 = .ok (.aload_n 0, 1) := by decide +kernel
theorem dX7_keeps_71 : decode cX7_keeps 71 = .ok (.getfield 7, 3) := by decide +kernel
theorem dX7_keeps_74 : decode cX7_keeps 74 = .ok (.iload_n 1, 1) := by decide +kernel
theorem dX7_keeps_75 : decode cX7_keeps 75 = .ok (.laload, 1) := by decide +kernel
theorem dX7_keeps_76 : decode cX7_keeps 76 = .ok (.lastore, 1) := by decide +kernel
theorem dX7_keeps_77 : decode cX7_keeps 77 = .ok (.iinc 1 1, 3) := by decide +kernel
theorem dX7_keeps_80 : decode cX7_keeps 80 = .ok (.goto (-29), 3) := by decide +kernel
theorem dX7_keeps_83 : decode cX7_keeps 83 = .ok (.aload_n 0, 1) := by decide +kernel
theorem dX7_keeps_84 : decode cX7_keeps 84 = .ok (.dup, 1) := by decide +kernel
theorem dX7_keeps_85 : decode cX7_keeps 85 = .ok (.getfield 54, 3) := by decide +kernel
theorem dX7_keeps_88 : decode cX7_keeps 88 = .ok (.iconst 1, 1) := by decide +kernel
theorem dX7_keeps_89 : decode cX7_keeps 89 = .ok (.iadd, 1) := by decide +kernel
theorem dX7_keeps_90 : decode cX7_keeps 90 = .ok (.putfield 54, 3) := by decide +kernel
theorem dX7_keeps_93 : decode cX7_keeps 93 = .ok (.return_, 1) := by decide +kernel
theorem dX7_undo_0 : decode cX7_undo 0 = .ok (.aload_n 0, 1) := by decide +kernel
theorem dX7_undo_1 : decode cX7_undo 1 = .ok (.aload_n 0, 1) := by decide +kernel
theorem dX7_undo_2 : decode cX7_undo 2 = .ok (.getfield 54, 3) := by decide +kernel
theorem dX7_undo_5 : decode cX7_undo 5 = .ok (.ifCond .ne 7, 3) := by decide +kernel
theorem dX7_undo_8 : decode cX7_undo 8 = .ok (.iconst 1, 1) := by decide +kernel
theorem dX7_undo_9 : decode cX7_undo 9 = .ok (.goto 4, 3) := by decide +kernel
theorem dX7_undo_12 : decode cX7_undo 12 = .ok (.iconst 0, 1) := by decide +kernel
theorem dX7_undo_13 : decode cX7_undo 13 = .ok (.putfield 51, 3) := by decide +kernel
theorem dX7_undo_16 : decode cX7_undo 16 = .ok (.aload_n 0, 1) := by decide +kernel
theorem dX7_undo_17 : decode cX7_undo 17 = .ok (.getfield 51, 3) := by decide +kernel
theorem dX7_undo_20 : decode cX7_undo 20 = .ok (.ifCond .le 5, 3) := by decide +kernel
theorem dX7_undo_23 : decode cX7_undo 23 = .ok (.iconst 0, 1) := by decide +kernel
theorem dX7_undo_24 : decode cX7_undo 24 = .ok (.ireturn, 1) := by decide +kernel
theorem dX7_undo_25 : decode cX7_undo 25 = .ok (.aload_n 0, 1) := by decide +kernel
theorem dX7_undo_26 : decode cX7_undo 26 = .ok (.dup, 1) := by decide +kernel
theorem dX7_undo_27 : decode cX7_undo 27 = .ok (.getfield 54, 3) := by decide +kernel
theorem dX7_undo_30 : decode cX7_undo 30 = .ok (.iconst 1, 1) := by decide +kernel
theorem dX7_undo_31 : decode cX7_undo 31 = .ok (.isub, 1) := by decide +kernel
theorem dX7_undo_32 : decode cX7_undo 32 = .ok (.putfield 54, 3) := by decide +kernel
theorem dX7_undo_35 : decode cX7_undo 35 = .ok (.aload_n 0, 1) := by decide +kernel
theorem dX7_undo_36 : decode cX7_undo 36 = .ok (.aload_n 0, 1) := by decide +kernel
theorem dX7_undo_37 : decode cX7_undo 37 = .ok (.getfield 16, 3) := by decide +kernel
theorem dX7_undo_40 : decode cX7_undo 40 = .ok (.bipush 73, 2) := by decide +kernel
theorem dX7_undo_42 : decode cX7_undo 42 = .ok (.aload_n 0, 1) := by decide +kernel
theorem dX7_undo_43 : decode cX7_undo 43 = .ok (.getfield 54, 3) := by decide +kernel
theorem dX7_undo_46 : decode cX7_undo 46 = .ok (.imul, 1) := by decide +kernel
theorem dX7_undo_47 : decode cX7_undo 47 = .ok (.invokevirtual 40, 3) := by decide +kernel
theorem dX7_undo_50 : decode cX7_undo 50 = .ok (.aload_n 0, 1) := by decide +kernel
theorem dX7_undo_51 : decode cX7_undo 51 = .ok (.getfield 54, 3) := by decide +kernel
theorem dX7_undo_54 : decode cX7_undo 54 = .ok (.ireturn, 1) := by decide +kernel
theorem dX7_stonesNow_0 : decode cX7_stonesNow 0 = .ok (.aload_n 0, 1) := by decide +kernel
theorem dX7_stonesNow_1 : decode cX7_stonesNow 1 = .ok (.getfield 7, 3) := by decide +kernel
theorem dX7_stonesNow_4 : decode cX7_stonesNow 4 = .ok (.bipush 11, 2) := by decide +kernel
theorem dX7_stonesNow_6 : decode cX7_stonesNow 6 = .ok (.laload, 1) := by decide +kernel
theorem dX7_stonesNow_7 : decode cX7_stonesNow 7 = .ok (.invokestatic 57, 3) := by decide +kernel
theorem dX7_stonesNow_10 : decode cX7_stonesNow 10 = .ok (.aload_n 0, 1) := by decide +kernel
theorem dX7_stonesNow_11 : decode cX7_stonesNow 11 = .ok (.getfield 7, 3) := by decide +kernel
theorem dX7_stonesNow_14 : decode cX7_stonesNow 14 = .ok (.bipush 12, 2) := by decide +kernel
theorem dX7_stonesNow_16 : decode cX7_stonesNow 16 = .ok (.laload, 1) := by decide +kernel
theorem dX7_stonesNow_17 : decode cX7_stonesNow 17 = .ok (.invokestatic 57, 3) := by decide +kernel
theorem dX7_stonesNow_20 : decode cX7_stonesNow 20 = .ok (.iadd, 1) := by decide +kernel
theorem dX7_stonesNow_21 : decode cX7_stonesNow 21 = .ok (.ireturn, 1) := by decide +kernel
theorem dX7_save_0 : decode cX7_save 0 = .ok (.aload_n 0, 1) := by decide +kernel
theorem dX7_save_1 : decode cX7_save 1 = .ok (.iload_n 1, 1) := by decide +kernel
theorem dX7_save_2 : decode cX7_save 2 = .ok (.i2l, 1) := by decide +kernel
theorem dX7_save_3 : decode cX7_save 3 = .ok (.lconst 0, 1) := by decide +kernel
theorem dX7_save_4 : decode cX7_save 4 = .ok (.lconst 1, 1) := by decide +kernel
theorem dX7_save_5 : decode cX7_save 5 = .ok (.invokestatic 61, 3) := by decide +kernel
theorem dX7_save_8 : decode cX7_save 8 = .ok (.ifCond .eq 7, 3) := by decide +kernel
theorem dX7_save_11 : decode cX7_save 11 = .ok (.iconst 0, 1) := by decide +kernel
theorem dX7_save_12 : decode cX7_save 12 = .ok (.goto 4, 3) := by decide +kernel
theorem dX7_save_15 : decode cX7_save 15 = .ok (.iconst 1, 1) := by decide +kernel
theorem dX7_save_16 : decode cX7_save 16 = .ok (.putfield 51, 3) := by decide +kernel
theorem dX7_save_19 : decode cX7_save 19 = .ok (.aload_n 0, 1) := by decide +kernel
theorem dX7_save_20 : decode cX7_save 20 = .ok (.getfield 51, 3) := by decide +kernel
theorem dX7_save_23 : decode cX7_save 23 = .ok (.ifCond .le 5, 3) := by decide +kernel
theorem dX7_save_26 : decode cX7_save 26 = .ok (.iconst 0, 1) := by decide +kernel
theorem dX7_save_27 : decode cX7_save 27 = .ok (.ireturn, 1) := by decide +kernel
theorem dX7_save_28 : decode cX7_save 28 = .ok (.aload_n 0, 1) := by decide +kernel
theorem dX7_save_29 : decode cX7_save 29 = .ok (.getfield 22, 3) := by decide +kernel
theorem dX7_save_32 : decode cX7_save 32 = .ok (.iload_n 1, 1) := by decide +kernel
theorem dX7_save_33 : decode cX7_save 33 = .ok (.iconst 1, 1) := by decide +kernel
theorem dX7_save_34 : decode cX7_save 34 = .ok (.bastore, 1) := by decide +kernel
theorem dX7_save_35 : decode cX7_save 35 = .ok (.iconst 0, 1) := by decide +kernel
theorem dX7_save_36 : decode cX7_save 36 = .ok (.istore_n 2, 1) := by decide +kernel
theorem dX7_save_37 : decode cX7_save 37 = .ok (.iload_n 2, 1) := by decide +kernel
theorem dX7_save_38 : decode cX7_save 38 = .ok (.bipush 73, 2) := by decide +kernel
theorem dX7_save_40 : decode cX7_save 40 = .ok (.if_icmp .ge 26, 3) := by decide +kernel
theorem dX7_save_43 : decode cX7_save 43 = .ok (.aload_n 0, 1) := by decide +kernel
theorem dX7_save_44 : decode cX7_save 44 = .ok (.getfield 19, 3) := by decide +kernel
theorem dX7_save_47 : decode cX7_save 47 = .ok (.bipush 73, 2) := by decide +kernel
theorem dX7_save_49 : decode cX7_save 49 = .ok (.iload_n 1, 1) := by decide +kernel
theorem dX7_save_50 : decode cX7_save 50 = .ok (.imul, 1) := by decide +kernel
theorem dX7_save_51 : decode cX7_save 51 = .ok (.iload_n 2, 1) := by decide +kernel
theorem dX7_save_52 : decode cX7_save 52 = .ok (.iadd, 1) := by decide +kernel
theorem dX7_save_53 : decode cX7_save 53 = .ok (.aload_n 0, 1) := by decide +kernel
theorem dX7_save_54 : decode cX7_save 54 = .ok (.getfield 7, 3) := by decide +kernel
theorem dX7_save_57 : decode cX7_save 57 = .ok (.iload_n 2, 1) := by decide +kernel
theorem dX7_save_58 : decode cX7_save 58 = .ok (.laload, 1) := by decide +kernel
theorem dX7_save_59 : decode cX7_save 59 = .ok (.lastore, 1) := by decide +kernel
theorem dX7_save_60 : decode cX7_save 60 = .ok (.iinc 2 1, 3) := by decide +kernel
theorem dX7_save_63 : decode cX7_save 63 = .ok (.goto (-26), 3) := by decide +kernel
theorem dX7_save_66 : decode cX7_save 66 = .ok (.aload_n 0, 1) := by decide +kernel
theorem dX7_save_67 : decode cX7_save 67 = .ok (.invokevirtual 65, 3) := by decide +kernel
theorem dX7_save_70 : decode cX7_save 70 = .ok (.ireturn, 1) := by decide +kernel
theorem dX7_restore_0 : decode cX7_restore 0 = .ok (.aload_n 0, 1) := by decide +kernel
theorem dX7_restore_1 : decode cX7_restore 1 = .ok (.iload_n 1, 1) := by decide +kernel
theorem dX7_restore_2 : decode cX7_restore 2 = .ok (.i2l, 1) := by decide +kernel
theorem dX7_restore_3 : decode cX7_restore 3 = .ok (.lconst 0, 1) := by decide +kernel
theorem dX7_restore_4 : decode cX7_restore 4 = .ok (.lconst 1, 1) := by decide +kernel
theorem dX7_restore_5 : decode cX7_restore 5 = .ok (.invokestatic 61, 3) := by decide +kernel
theorem dX7_restore_8 : decode cX7_restore 8 = .ok (.ifCond .ne 7, 3) := by decide +kernel
theorem dX7_restore_11 : decode cX7_restore 11 = .ok (.iconst 1, 1) := by decide +kernel
theorem dX7_restore_12 : decode cX7_restore 12 = .ok (.goto 17, 3) := by decide +kernel
theorem dX7_restore_15 : decode cX7_restore 15 = .ok (.aload_n 0, 1) := by decide +kernel
theorem dX7_restore_16 : decode cX7_restore 16 = .ok (.getfield 22, 3) := by decide +kernel
theorem dX7_restore_19 : decode cX7_restore 19 = .ok (.iload_n 1, 1) := by decide +kernel
theorem dX7_restore_20 : decode cX7_restore 20 = .ok (.baload, 1) := by decide +kernel
theorem dX7_restore_21 : decode cX7_restore 21 = .ok (.ifCond .eq 7, 3) := by decide +kernel
theorem dX7_restore_24 : decode cX7_restore 24 = .ok (.iconst 0, 1) := by decide +kernel
theorem dX7_restore_25 : decode cX7_restore 25 = .ok (.goto 4, 3) := by decide +kernel
theorem dX7_restore_28 : decode cX7_restore 28 = .ok (.iconst 2, 1) := by decide +kernel
theorem dX7_restore_29 : decode cX7_restore 29 = .ok (.putfield 51, 3) := by decide +kernel
theorem dX7_restore_32 : decode cX7_restore 32 = .ok (.aload_n 0, 1) := by decide +kernel
theorem dX7_restore_33 : decode cX7_restore 33 = .ok (.getfield 51, 3) := by decide +kernel
theorem dX7_restore_36 : decode cX7_restore 36 = .ok (.ifCond .le 5, 3) := by decide +kernel
theorem dX7_restore_39 : decode cX7_restore 39 = .ok (.iconst 0, 1) := by decide +kernel
theorem dX7_restore_40 : decode cX7_restore 40 = .ok (.ireturn, 1) := by decide +kernel
theorem dX7_restore_41 : decode cX7_restore 41 = .ok (.aload_n 0, 1) := by decide +kernel
theorem dX7_restore_42 : decode cX7_restore 42 = .ok (.invokevirtual 69, 3) := by decide +kernel
theorem dX7_restore_45 : decode cX7_restore 45 = .ok (.aload_n 0, 1) := by decide +kernel
theorem dX7_restore_46 : decode cX7_restore 46 = .ok (.aload_n 0, 1) := by decide +kernel
theorem dX7_restore_47 : decode cX7_restore 47 = .ok (.getfield 19, 3) := by decide +kernel
theorem dX7_restore_50 : decode cX7_restore 50 = .ok (.bipush 73, 2) := by decide +kernel
theorem dX7_restore_52 : decode cX7_restore 52 = .ok (.iload_n 1, 1) := by decide +kernel
theorem dX7_restore_53 : decode cX7_restore 53 = .ok (.imul, 1) := by decide +kernel
theorem dX7_restore_54 : decode cX7_restore 54 = .ok (.invokevirtual 40, 3) := by decide +kernel
theorem dX7_restore_57 : decode cX7_restore 57 = .ok (.aload_n 0, 1) := by decide +kernel
theorem dX7_restore_58 : decode cX7_restore 58 = .ok (.invokevirtual 65, 3) := by decide +kernel
theorem dX7_restore_61 : decode cX7_restore 61 = .ok (.ireturn, 1) := by decide +kernel
theorem dX7_differing_0 : decode cX7_differing 0 = .ok (.aload_n 0, 1) := by decide +kernel
theorem dX7_differing_1 : decode cX7_differing 1 = .ok (.iload_n 1, 1) := by decide +kernel
theorem dX7_differing_2 : decode cX7_differing 2 = .ok (.i2l, 1) := by decide +kernel
theorem dX7_differing_3 : decode cX7_differing 3 = .ok (.lconst 0, 1) := by decide +kernel
theorem dX7_differing_4 : decode cX7_differing 4 = .ok (.lconst 1, 1) := by decide +kernel
theorem dX7_differing_5 : decode cX7_differing 5 = .ok (.invokestatic 61, 3) := by decide +kernel
theorem dX7_differing_8 : decode cX7_differing 8 = .ok (.ifCond .eq 7, 3) := by decide +kernel
theorem dX7_differing_11 : decode cX7_differing 11 = .ok (.iconst 0, 1) := by decide +kernel
theorem dX7_differing_12 : decode cX7_differing 12 = .ok (.goto 4, 3) := by decide +kernel
theorem dX7_differing_15 : decode cX7_differing 15 = .ok (.iconst 1, 1) := by decide +kernel
theorem dX7_differing_16 : decode cX7_differing 16 = .ok (.putfield 51, 3) := by decide +kernel
theorem dX7_differing_19 : decode cX7_differing 19 = .ok (.aload_n 0, 1) := by decide +kernel
theorem dX7_differing_20 : decode cX7_differing 20 = .ok (.getfield 51, 3) := by decide +kernel
theorem dX7_differing_23 : decode cX7_differing 23 = .ok (.ifCond .le 5, 3) := by decide +kernel
theorem dX7_differing_26 : decode cX7_differing 26 = .ok (.iconst 0, 1) := by decide +kernel
theorem dX7_differing_27 : decode cX7_differing 27 = .ok (.ireturn, 1) := by decide +kernel
theorem dX7_differing_28 : decode cX7_differing 28 = .ok (.bipush 73, 2) := by decide +kernel
theorem dX7_differing_30 : decode cX7_differing 30 = .ok (.iload_n 1, 1) := by decide +kernel
theorem dX7_differing_31 : decode cX7_differing 31 = .ok (.imul, 1) := by decide +kernel
theorem dX7_differing_32 : decode cX7_differing 32 = .ok (.istore_n 2, 1) := by decide +kernel
theorem dX7_differing_33 : decode cX7_differing 33 = .ok (.aload_n 0, 1) := by decide +kernel
theorem dX7_differing_34 : decode cX7_differing 34 = .ok (.getfield 22, 3) := by decide +kernel
theorem dX7_differing_37 : decode cX7_differing 37 = .ok (.iload_n 1, 1) := by decide +kernel
theorem dX7_differing_38 : decode cX7_differing 38 = .ok (.baload, 1) := by decide +kernel
theorem dX7_differing_39 : decode cX7_differing 39 = .ok (.ifCond .eq 39, 3) := by decide +kernel
theorem dX7_differing_42 : decode cX7_differing 42 = .ok (.aload_n 0, 1) := by decide +kernel
theorem dX7_differing_43 : decode cX7_differing 43 = .ok (.getfield 19, 3) := by decide +kernel
theorem dX7_differing_46 : decode cX7_differing 46 = .ok (.iload_n 2, 1) := by decide +kernel
theorem dX7_differing_47 : decode cX7_differing 47 = .ok (.iconst 0, 1) := by decide +kernel
theorem dX7_differing_48 : decode cX7_differing 48 = .ok (.iadd, 1) := by decide +kernel
theorem dX7_differing_49 : decode cX7_differing 49 = .ok (.laload, 1) := by decide +kernel
theorem dX7_differing_50 : decode cX7_differing 50 = .ok (.aload_n 0, 1) := by decide +kernel
theorem dX7_differing_51 : decode cX7_differing 51 = .ok (.getfield 7, 3) := by decide +kernel
theorem dX7_differing_54 : decode cX7_differing 54 = .ok (.iconst 0, 1) := by decide +kernel
theorem dX7_differing_55 : decode cX7_differing 55 = .ok (.laload, 1) := by decide +kernel
theorem dX7_differing_56 : decode cX7_differing 56 = .ok (.lcmp, 1) := by decide +kernel
theorem dX7_differing_57 : decode cX7_differing 57 = .ok (.ifCond .ne 21, 3) := by decide +kernel
theorem dX7_differing_60 : decode cX7_differing 60 = .ok (.aload_n 0, 1) := by decide +kernel
theorem dX7_differing_61 : decode cX7_differing 61 = .ok (.getfield 19, 3) := by decide +kernel
theorem dX7_differing_64 : decode cX7_differing 64 = .ok (.iload_n 2, 1) := by decide +kernel
theorem dX7_differing_65 : decode cX7_differing 65 = .ok (.iconst 1, 1) := by decide +kernel
theorem dX7_differing_66 : decode cX7_differing 66 = .ok (.iadd, 1) := by decide +kernel
theorem dX7_differing_67 : decode cX7_differing 67 = .ok (.laload, 1) := by decide +kernel
theorem dX7_differing_68 : decode cX7_differing 68 = .ok (.aload_n 0, 1) := by decide +kernel
theorem dX7_differing_69 : decode cX7_differing 69 = .ok (.getfield 7, 3) := by decide +kernel
theorem dX7_differing_72 : decode cX7_differing 72 = .ok (.iconst 1, 1) := by decide +kernel
theorem dX7_differing_73 : decode cX7_differing 73 = .ok (.laload, 1) := by decide +kernel
theorem dX7_differing_74 : decode cX7_differing 74 = .ok (.lcmp, 1) := by decide +kernel
theorem dX7_differing_75 : decode cX7_differing 75 = .ok (.ifCond .eq 5, 3) := by decide +kernel
theorem dX7_differing_78 : decode cX7_differing 78 = .ok (.iconst (-1), 1) := by decide +kernel
theorem dX7_differing_79 : decode cX7_differing 79 = .ok (.ireturn, 1) := by decide +kernel
theorem dX7_differing_80 : decode cX7_differing 80 = .ok (.aload_n 0, 1) := by decide +kernel
theorem dX7_differing_81 : decode cX7_differing 81 = .ok (.getfield 7, 3) := by decide +kernel
theorem dX7_differing_84 : decode cX7_differing 84 = .ok (.bipush 11, 2) := by decide +kernel
theorem dX7_differing_86 : decode cX7_differing 86 = .ok (.laload, 1) := by decide +kernel
theorem dX7_differing_87 : decode cX7_differing 87 = .ok (.aload_n 0, 1) := by decide +kernel
theorem dX7_differing_88 : decode cX7_differing 88 = .ok (.getfield 19, 3) := by decide +kernel
theorem dX7_differing_91 : decode cX7_differing 91 = .ok (.iload_n 2, 1) := by decide +kernel
theorem dX7_differing_92 : decode cX7_differing 92 = .ok (.bipush 11, 2) := by decide +kernel
theorem dX7_differing_94 : decode cX7_differing 94 = .ok (.iadd, 1) := by decide +kernel
theorem dX7_differing_95 : decode cX7_differing 95 = .ok (.laload, 1) := by decide +kernel
theorem dX7_differing_96 : decode cX7_differing 96 = .ok (.lxor, 1) := by decide +kernel
theorem dX7_differing_97 : decode cX7_differing 97 = .ok (.aload_n 0, 1) := by decide +kernel
theorem dX7_differing_98 : decode cX7_differing 98 = .ok (.getfield 7, 3) := by decide +kernel
theorem dX7_differing_101 : decode cX7_differing 101 = .ok (.bipush 12, 2) := by decide +kernel
theorem dX7_differing_103 : decode cX7_differing 103 = .ok (.laload, 1) := by decide +kernel
theorem dX7_differing_104 : decode cX7_differing 104 = .ok (.aload_n 0, 1) := by decide +kernel
theorem dX7_differing_105 : decode cX7_differing 105 = .ok (.getfield 19, 3) := by decide +kernel
theorem dX7_differing_108 : decode cX7_differing 108 = .ok (.iload_n 2, 1) := by decide +kernel
theorem dX7_differing_109 : decode cX7_differing 109 = .ok (.bipush 11, 2) := by decide +kernel
theorem dX7_differing_111 : decode cX7_differing 111 = .ok (.iadd, 1) := by decide +kernel
theorem dX7_differing_112 : decode cX7_differing 112 = .ok (.iconst 1, 1) := by decide +kernel
theorem dX7_differing_113 : decode cX7_differing 113 = .ok (.iadd, 1) := by decide +kernel
theorem dX7_differing_114 : decode cX7_differing 114 = .ok (.laload, 1) := by decide +kernel
theorem dX7_differing_115 : decode cX7_differing 115 = .ok (.lxor, 1) := by decide +kernel
theorem dX7_differing_116 : decode cX7_differing 116 = .ok (.lor, 1) := by decide +kernel
theorem dX7_differing_117 : decode cX7_differing 117 = .ok (.invokestatic 57, 3) := by decide +kernel
theorem dX7_differing_120 : decode cX7_differing 120 = .ok (.ireturn, 1) := by decide +kernel
theorem dX7_remembers_0 : decode cX7_remembers 0 = .ok (.aload_n 0, 1) := by decide +kernel
theorem dX7_remembers_1 : decode cX7_remembers 1 = .ok (.getfield 7, 3) := by decide +kernel
theorem dX7_remembers_4 : decode cX7_remembers 4 = .ok (.bipush 10, 2) := by decide +kernel
theorem dX7_remembers_6 : decode cX7_remembers 6 = .ok (.laload, 1) := by decide +kernel
theorem dX7_remembers_7 : decode cX7_remembers 7 = .ok (.ldc2_w 72, 3) := by decide +kernel
theorem dX7_remembers_10 : decode cX7_remembers 10 = .ok (.lcmp, 1) := by decide +kernel
theorem dX7_remembers_11 : decode cX7_remembers 11 = .ok (.ifCond .ne 43, 3) := by decide +kernel
theorem dX7_remembers_14 : decode cX7_remembers 14 = .ok (.bipush 13, 2) := by decide +kernel
theorem dX7_remembers_16 : decode cX7_remembers 16 = .ok (.istore_n 1, 1) := by decide +kernel
theorem dX7_remembers_17 : decode cX7_remembers 17 = .ok (.iload_n 1, 1) := by decide +kernel
theorem dX7_remembers_18 : decode cX7_remembers 18 = .ok (.bipush 71, 2) := by decide +kernel
theorem dX7_remembers_20 : decode cX7_remembers 20 = .ok (.if_icmp .ge 23, 3) := by decide +kernel
theorem dX7_remembers_23 : decode cX7_remembers 23 = .ok (.aload_n 0, 1) := by decide +kernel
theorem dX7_remembers_24 : decode cX7_remembers 24 = .ok (.getfield 7, 3) := by decide +kernel
theorem dX7_remembers_27 : decode cX7_remembers 27 = .ok (.iload_n 1, 1) := by decide +kernel
theorem dX7_remembers_28 : decode cX7_remembers 28 = .ok (.aload_n 0, 1) := by decide +kernel
theorem dX7_remembers_29 : decode cX7_remembers 29 = .ok (.getfield 7, 3) := by decide +kernel
theorem dX7_remembers_32 : decode cX7_remembers 32 = .ok (.iload_n 1, 1) := by decide +kernel
theorem dX7_remembers_33 : decode cX7_remembers 33 = .ok (.iconst 2, 1) := by decide +kernel
theorem dX7_remembers_34 : decode cX7_remembers 34 = .ok (.iadd, 1) := by decide +kernel
theorem dX7_remembers_35 : decode cX7_remembers 35 = .ok (.laload, 1) := by decide +kernel
theorem dX7_remembers_36 : decode cX7_remembers 36 = .ok (.lastore, 1) := by decide +kernel
theorem dX7_remembers_37 : decode cX7_remembers 37 = .ok (.iinc 1 1, 3) := by decide +kernel
theorem dX7_remembers_40 : decode cX7_remembers 40 = .ok (.goto (-23), 3) := by decide +kernel
theorem dX7_remembers_43 : decode cX7_remembers 43 = .ok (.aload_n 0, 1) := by decide +kernel
theorem dX7_remembers_44 : decode cX7_remembers 44 = .ok (.getfield 7, 3) := by decide +kernel
theorem dX7_remembers_47 : decode cX7_remembers 47 = .ok (.bipush 10, 2) := by decide +kernel
theorem dX7_remembers_49 : decode cX7_remembers 49 = .ok (.dup2, 1) := by decide +kernel
theorem dX7_remembers_50 : decode cX7_remembers 50 = .ok (.laload, 1) := by decide +kernel
theorem dX7_remembers_51 : decode cX7_remembers 51 = .ok (.lconst 1, 1) := by decide +kernel
theorem dX7_remembers_52 : decode cX7_remembers 52 = .ok (.lsub, 1) := by decide +kernel
theorem dX7_remembers_53 : decode cX7_remembers 53 = .ok (.lastore, 1) := by decide +kernel
theorem dX7_remembers_54 : decode cX7_remembers 54 = .ok (.bipush 13, 2) := by decide +kernel
theorem dX7_remembers_56 : decode cX7_remembers 56 = .ok (.iconst 2, 1) := by decide +kernel
theorem dX7_remembers_57 : decode cX7_remembers 57 = .ok (.aload_n 0, 1) := by decide +kernel
theorem dX7_remembers_58 : decode cX7_remembers 58 = .ok (.getfield 7, 3) := by decide +kernel
theorem dX7_remembers_61 : decode cX7_remembers 61 = .ok (.bipush 10, 2) := by decide +kernel
theorem dX7_remembers_63 : decode cX7_remembers 63 = .ok (.laload, 1) := by decide +kernel
theorem dX7_remembers_64 : decode cX7_remembers 64 = .ok (.l2i, 1) := by decide +kernel
theorem dX7_remembers_65 : decode cX7_remembers 65 = .ok (.imul, 1) := by decide +kernel
theorem dX7_remembers_66 : decode cX7_remembers 66 = .ok (.iadd, 1) := by decide +kernel
theorem dX7_remembers_67 : decode cX7_remembers 67 = .ok (.istore_n 1, 1) := by decide +kernel
theorem dX7_remembers_68 : decode cX7_remembers 68 = .ok (.aload_n 0, 1) := by decide +kernel
theorem dX7_remembers_69 : decode cX7_remembers 69 = .ok (.getfield 7, 3) := by decide +kernel
theorem dX7_remembers_72 : decode cX7_remembers 72 = .ok (.iload_n 1, 1) := by decide +kernel
theorem dX7_remembers_73 : decode cX7_remembers 73 = .ok (.aload_n 0, 1) := by decide +kernel
theorem dX7_remembers_74 : decode cX7_remembers 74 = .ok (.getfield 7, 3) := by decide +kernel
theorem dX7_remembers_77 : decode cX7_remembers 77 = .ok (.bipush 11, 2) := by decide +kernel
theorem dX7_remembers_79 : decode cX7_remembers 79 = .ok (.laload, 1) := by decide +kernel
theorem dX7_remembers_80 : decode cX7_remembers 80 = .ok (.lastore, 1) := by decide +kernel
theorem dX7_remembers_81 : decode cX7_remembers 81 = .ok (.aload_n 0, 1) := by decide +kernel
theorem dX7_remembers_82 : decode cX7_remembers 82 = .ok (.getfield 7, 3) := by decide +kernel
theorem dX7_remembers_85 : decode cX7_remembers 85 = .ok (.iload_n 1, 1) := by decide +kernel
theorem dX7_remembers_86 : decode cX7_remembers 86 = .ok (.iconst 1, 1) := by decide +kernel
theorem dX7_remembers_87 : decode cX7_remembers 87 = .ok (.iadd, 1) := by decide +kernel
theorem dX7_remembers_88 : decode cX7_remembers 88 = .ok (.aload_n 0, 1) := by decide +kernel
theorem dX7_remembers_89 : decode cX7_remembers 89 = .ok (.getfield 7, 3) := by decide +kernel
theorem dX7_remembers_92 : decode cX7_remembers 92 = .ok (.bipush 12, 2) := by decide +kernel
theorem dX7_remembers_94 : decode cX7_remembers 94 = .ok (.laload, 1) := by decide +kernel
theorem dX7_remembers_95 : decode cX7_remembers 95 = .ok (.lastore, 1) := by decide +kernel
theorem dX7_remembers_96 : decode cX7_remembers 96 = .ok (.aload_n 0, 1) := by decide +kernel
theorem dX7_remembers_97 : decode cX7_remembers 97 = .ok (.getfield 7, 3) := by decide +kernel
theorem dX7_remembers_100 : decode cX7_remembers 100 = .ok (.bipush 10, 2) := by decide +kernel
theorem dX7_remembers_102 : decode cX7_remembers 102 = .ok (.dup2, 1) := by decide +kernel
theorem dX7_remembers_103 : decode cX7_remembers 103 = .ok (.laload, 1) := by decide +kernel
theorem dX7_remembers_104 : decode cX7_remembers 104 = .ok (.lconst 1, 1) := by decide +kernel
theorem dX7_remembers_105 : decode cX7_remembers 105 = .ok (.ladd, 1) := by decide +kernel
theorem dX7_remembers_106 : decode cX7_remembers 106 = .ok (.lastore, 1) := by decide +kernel
theorem dX7_remembers_107 : decode cX7_remembers 107 = .ok (.return_, 1) := by decide +kernel
theorem dX7_forgets_0 : decode cX7_forgets 0 = .ok (.aload_n 0, 1) := by decide +kernel
theorem dX7_forgets_1 : decode cX7_forgets 1 = .ok (.getfield 7, 3) := by decide +kernel
theorem dX7_forgets_4 : decode cX7_forgets 4 = .ok (.bipush 10, 2) := by decide +kernel
theorem dX7_forgets_6 : decode cX7_forgets 6 = .ok (.lconst 0, 1) := by decide +kernel
theorem dX7_forgets_7 : decode cX7_forgets 7 = .ok (.lastore, 1) := by decide +kernel
theorem dX7_forgets_8 : decode cX7_forgets 8 = .ok (.aload_n 0, 1) := by decide +kernel
theorem dX7_forgets_9 : decode cX7_forgets 9 = .ok (.invokevirtual 74, 3) := by decide +kernel
theorem dX7_forgets_12 : decode cX7_forgets 12 = .ok (.return_, 1) := by decide +kernel
theorem dX7_wasThere_0 : decode cX7_wasThere 0 = .ok (.bipush 13, 2) := by decide +kernel
theorem dX7_wasThere_2 : decode cX7_wasThere 2 = .ok (.istore 5, 2) := by decide +kernel
theorem dX7_wasThere_4 : decode cX7_wasThere 4 = .ok (.iload 5, 2) := by decide +kernel
theorem dX7_wasThere_6 : decode cX7_wasThere 6 = .ok (.i2l, 1) := by decide +kernel
theorem dX7_wasThere_7 : decode cX7_wasThere 7 = .ok (.ldc2_w 77, 3) := by decide +kernel
theorem dX7_wasThere_10 : decode cX7_wasThere 10 = .ok (.ldc2_w 79, 3) := by decide +kernel
theorem dX7_wasThere_13 : decode cX7_wasThere 13 = .ok (.aload_n 0, 1) := by decide +kernel
theorem dX7_wasThere_14 : decode cX7_wasThere 14 = .ok (.getfield 7, 3) := by decide +kernel
theorem dX7_wasThere_17 : decode cX7_wasThere 17 = .ok (.bipush 10, 2) := by decide +kernel
theorem dX7_wasThere_19 : decode cX7_wasThere 19 = .ok (.laload, 1) := by decide +kernel
theorem dX7_wasThere_20 : decode cX7_wasThere 20 = .ok (.lmul, 1) := by decide +kernel
theorem dX7_wasThere_21 : decode cX7_wasThere 21 = .ok (.ladd, 1) := by decide +kernel
theorem dX7_wasThere_22 : decode cX7_wasThere 22 = .ok (.lcmp, 1) := by decide +kernel
theorem dX7_wasThere_23 : decode cX7_wasThere 23 = .ok (.ifCond .ge 37, 3) := by decide +kernel
theorem dX7_wasThere_26 : decode cX7_wasThere 26 = .ok (.aload_n 0, 1) := by decide +kernel
theorem dX7_wasThere_27 : decode cX7_wasThere 27 = .ok (.getfield 7, 3) := by decide +kernel
theorem dX7_wasThere_30 : decode cX7_wasThere 30 = .ok (.iload 5, 2) := by decide +kernel
theorem dX7_wasThere_32 : decode cX7_wasThere 32 = .ok (.laload, 1) := by decide +kernel
theorem dX7_wasThere_33 : decode cX7_wasThere 33 = .ok (.lload_n 1, 1) := by decide +kernel
theorem dX7_wasThere_34 : decode cX7_wasThere 34 = .ok (.lcmp, 1) := by decide +kernel
theorem dX7_wasThere_35 : decode cX7_wasThere 35 = .ok (.ifCond .ne 19, 3) := by decide +kernel
theorem dX7_wasThere_38 : decode cX7_wasThere 38 = .ok (.aload_n 0, 1) := by decide +kernel
theorem dX7_wasThere_39 : decode cX7_wasThere 39 = .ok (.getfield 7, 3) := by decide +kernel
theorem dX7_wasThere_42 : decode cX7_wasThere 42 = .ok (.iload 5, 2) := by decide +kernel
theorem dX7_wasThere_44 : decode cX7_wasThere 44 = .ok (.iconst 1, 1) := by decide +kernel
theorem dX7_wasThere_45 : decode cX7_wasThere 45 = .ok (.iadd, 1) := by decide +kernel
theorem dX7_wasThere_46 : decode cX7_wasThere 46 = .ok (.laload, 1) := by decide +kernel
theorem dX7_wasThere_47 : decode cX7_wasThere 47 = .ok (.lload_n 3, 1) := by decide +kernel
theorem dX7_wasThere_48 : decode cX7_wasThere 48 = .ok (.lcmp, 1) := by decide +kernel
theorem dX7_wasThere_49 : decode cX7_wasThere 49 = .ok (.ifCond .ne 5, 3) := by decide +kernel
theorem dX7_wasThere_52 : decode cX7_wasThere 52 = .ok (.iconst 1, 1) := by decide +kernel
theorem dX7_wasThere_53 : decode cX7_wasThere 53 = .ok (.ireturn, 1) := by decide +kernel
theorem dX7_wasThere_54 : decode cX7_wasThere 54 = .ok (.iinc 5 2, 3) := by decide +kernel
theorem dX7_wasThere_57 : decode cX7_wasThere 57 = .ok (.goto (-53), 3) := by decide +kernel
theorem dX7_wasThere_60 : decode cX7_wasThere 60 = .ok (.iconst 0, 1) := by decide +kernel
theorem dX7_wasThere_61 : decode cX7_wasThere 61 = .ok (.ireturn, 1) := by decide +kernel
theorem dX7_append_0 : decode cX7_append 0 = .ok (.aload_n 0, 1) := by decide +kernel
theorem dX7_append_1 : decode cX7_append 1 = .ok (.aload_n 0, 1) := by decide +kernel
theorem dX7_append_2 : decode cX7_append 2 = .ok (.getfield 81, 3) := by decide +kernel
theorem dX7_append_5 : decode cX7_append 5 = .ok (.bipush 20, 2) := by decide +kernel
theorem dX7_append_7 : decode cX7_append 7 = .ok (.iadd, 1) := by decide +kernel
theorem dX7_append_8 : decode cX7_append 8 = .ok (.sipush 300, 3) := by decide +kernel
theorem dX7_append_11 : decode cX7_append 11 = .ok (.if_icmp .le 7, 3) := by decide +kernel
theorem dX7_append_14 : decode cX7_append 14 = .ok (.iconst 1, 1) := by decide +kernel
theorem dX7_append_15 : decode cX7_append 15 = .ok (.goto 4, 3) := by decide +kernel
theorem dX7_append_18 : decode cX7_append 18 = .ok (.iconst 0, 1) := by decide +kernel
theorem dX7_append_19 : decode cX7_append 19 = .ok (.putfield 51, 3) := by decide +kernel
theorem dX7_append_22 : decode cX7_append 22 = .ok (.aload_n 0, 1) := by decide +kernel
theorem dX7_append_23 : decode cX7_append 23 = .ok (.getfield 51, 3) := by decide +kernel
theorem dX7_append_26 : decode cX7_append 26 = .ok (.ifCond .le 5, 3) := by decide +kernel
theorem dX7_append_29 : decode cX7_append 29 = .ok (.iconst 0, 1) := by decide +kernel
theorem dX7_append_30 : decode cX7_append 30 = .ok (.ireturn, 1) := by decide +kernel
theorem dX7_append_31 : decode cX7_append 31 = .ok (.iconst 0, 1) := by decide +kernel
theorem dX7_append_32 : decode cX7_append 32 = .ok (.istore 6, 2) := by decide +kernel
theorem dX7_append_34 : decode cX7_append 34 = .ok (.iload 6, 2) := by decide +kernel
theorem dX7_append_36 : decode cX7_append 36 = .ok (.bipush 20, 2) := by decide +kernel
theorem dX7_append_38 : decode cX7_append 38 = .ok (.if_icmp .ge 93, 3) := by decide +kernel
theorem dX7_append_41 : decode cX7_append 41 = .ok (.iload 6, 2) := by decide +kernel
theorem dX7_append_43 : decode cX7_append 43 = .ok (.iconst 4, 1) := by decide +kernel
theorem dX7_append_44 : decode cX7_append 44 = .ok (.if_icmp .ge 7, 3) := by decide +kernel
theorem dX7_append_47 : decode cX7_append 47 = .ok (.iload_n 1, 1) := by decide +kernel
theorem dX7_append_48 : decode cX7_append 48 = .ok (.goto 39, 3) := by decide +kernel
theorem dX7_append_51 : decode cX7_append 51 = .ok (.iload 6, 2) := by decide +kernel
theorem dX7_append_53 : decode cX7_append 53 = .ok (.bipush 8, 2) := by decide +kernel
theorem dX7_append_55 : decode cX7_append 55 = .ok (.if_icmp .ge 7, 3) := by decide +kernel
theorem dX7_append_58 : decode cX7_append 58 = .ok (.iload_n 2, 1) := by decide +kernel
theorem dX7_append_59 : decode cX7_append 59 = .ok (.goto 28, 3) := by decide +kernel
theorem dX7_append_62 : decode cX7_append 62 = .ok (.iload 6, 2) := by decide +kernel
theorem dX7_append_64 : decode cX7_append 64 = .ok (.bipush 12, 2) := by decide +kernel
theorem dX7_append_66 : decode cX7_append 66 = .ok (.if_icmp .ge 7, 3) := by decide +kernel
theorem dX7_append_69 : decode cX7_append 69 = .ok (.iload_n 3, 1) := by decide +kernel
theorem dX7_append_70 : decode cX7_append 70 = .ok (.goto 17, 3) := by decide +kernel
theorem dX7_append_73 : decode cX7_append 73 = .ok (.iload 6, 2) := by decide +kernel
theorem dX7_append_75 : decode cX7_append 75 = .ok (.bipush 16, 2) := by decide +kernel
theorem dX7_append_77 : decode cX7_append 77 = .ok (.if_icmp .ge 8, 3) := by decide +kernel
theorem dX7_append_80 : decode cX7_append 80 = .ok (.iload 4, 2) := by decide +kernel
theorem dX7_append_82 : decode cX7_append 82 = .ok (.goto 5, 3) := by decide +kernel
theorem dX7_append_85 : decode cX7_append 85 = .ok (.iload 5, 2) := by decide +kernel
theorem dX7_append_87 : decode cX7_append 87 = .ok (.istore 7, 2) := by decide +kernel
theorem dX7_append_89 : decode cX7_append 89 = .ok (.aload_n 0, 1) := by decide +kernel
theorem dX7_append_90 : decode cX7_append 90 = .ok (.getfield 26, 3) := by decide +kernel
theorem dX7_append_93 : decode cX7_append 93 = .ok (.aload_n 0, 1) := by decide +kernel
theorem dX7_append_94 : decode cX7_append 94 = .ok (.getfield 81, 3) := by decide +kernel
theorem dX7_append_97 : decode cX7_append 97 = .ok (.iload 7, 2) := by decide +kernel
theorem dX7_append_99 : decode cX7_append 99 = .ok (.bipush 24, 2) := by decide +kernel
theorem dX7_append_101 : decode cX7_append 101 = .ok (.bipush 8, 2) := by decide +kernel
theorem dX7_append_103 : decode cX7_append 103 = .ok (.iload 6, 2) := by decide +kernel
theorem dX7_append_105 : decode cX7_append 105 = .ok (.iconst 4, 1) := by decide +kernel
theorem dX7_append_106 : decode cX7_append 106 = .ok (.irem, 1) := by decide +kernel
theorem dX7_append_107 : decode cX7_append 107 = .ok (.imul, 1) := by decide +kernel
theorem dX7_append_108 : decode cX7_append 108 = .ok (.isub, 1) := by decide +kernel
theorem dX7_append_109 : decode cX7_append 109 = .ok (.ishr, 1) := by decide +kernel
theorem dX7_append_110 : decode cX7_append 110 = .ok (.sipush 255, 3) := by decide +kernel
theorem dX7_append_113 : decode cX7_append 113 = .ok (.iand, 1) := by decide +kernel
theorem dX7_append_114 : decode cX7_append 114 = .ok (.iastore, 1) := by decide +kernel
theorem dX7_append_115 : decode cX7_append 115 = .ok (.aload_n 0, 1) := by decide +kernel
theorem dX7_append_116 : decode cX7_append 116 = .ok (.dup, 1) := by decide +kernel
theorem dX7_append_117 : decode cX7_append 117 = .ok (.getfield 81, 3) := by decide +kernel
theorem dX7_append_120 : decode cX7_append 120 = .ok (.iconst 1, 1) := by decide +kernel
theorem dX7_append_121 : decode cX7_append 121 = .ok (.iadd, 1) := by decide +kernel
theorem dX7_append_122 : decode cX7_append 122 = .ok (.putfield 81, 3) := by decide +kernel
theorem dX7_append_125 : decode cX7_append 125 = .ok (.iinc 6 1, 3) := by decide +kernel
theorem dX7_append_128 : decode cX7_append 128 = .ok (.goto (-94), 3) := by decide +kernel
theorem dX7_append_131 : decode cX7_append 131 = .ok (.aload_n 0, 1) := by decide +kernel
theorem dX7_append_132 : decode cX7_append 132 = .ok (.getfield 81, 3) := by decide +kernel
theorem dX7_append_135 : decode cX7_append 135 = .ok (.ireturn, 1) := by decide +kernel
theorem dX7_see_0 : decode cX7_see 0 = .ok (.iload_n 1, 1) := by decide +kernel
theorem dX7_see_1 : decode cX7_see 1 = .ok (.aload_n 0, 1) := by decide +kernel
theorem dX7_see_2 : decode cX7_see 2 = .ok (.getfield 84, 3) := by decide +kernel
theorem dX7_see_5 : decode cX7_see 5 = .ok (.if_icmp .ge 12, 3) := by decide +kernel
theorem dX7_see_8 : decode cX7_see 8 = .ok (.aload_n 0, 1) := by decide +kernel
theorem dX7_see_9 : decode cX7_see 9 = .ok (.getfield 26, 3) := by decide +kernel
theorem dX7_see_12 : decode cX7_see 12 = .ok (.iload_n 1, 1) := by decide +kernel
theorem dX7_see_13 : decode cX7_see 13 = .ok (.iaload, 1) := by decide +kernel
theorem dX7_see_14 : decode cX7_see 14 = .ok (.goto 4, 3) := by decide +kernel
theorem dX7_see_17 : decode cX7_see 17 = .ok (.iconst (-1), 1) := by decide +kernel
theorem dX7_see_18 : decode cX7_see 18 = .ok (.ireturn, 1) := by decide +kernel
theorem dX7_isLetter_0 : decode cX7_isLetter 0 = .ok (.iload_n 0, 1) := by decide +kernel
theorem dX7_isLetter_1 : decode cX7_isLetter 1 = .ok (.i2l, 1) := by decide +kernel
theorem dX7_isLetter_2 : decode cX7_isLetter 2 = .ok (.ldc2_w 87, 3) := by decide +kernel
theorem dX7_isLetter_5 : decode cX7_isLetter 5 = .ok (.ldc2_w 89, 3) := by decide +kernel
theorem dX7_isLetter_8 : decode cX7_isLetter 8 = .ok (.invokestatic 61, 3) := by decide +kernel
theorem dX7_isLetter_11 : decode cX7_isLetter 11 = .ok (.ireturn, 1) := by decide +kernel
theorem dX7_isDigit_0 : decode cX7_isDigit 0 = .ok (.iload_n 0, 1) := by decide +kernel
theorem dX7_isDigit_1 : decode cX7_isDigit 1 = .ok (.i2l, 1) := by decide +kernel
theorem dX7_isDigit_2 : decode cX7_isDigit 2 = .ok (.ldc2_w 91, 3) := by decide +kernel
theorem dX7_isDigit_5 : decode cX7_isDigit 5 = .ok (.ldc2_w 93, 3) := by decide +kernel
theorem dX7_isDigit_8 : decode cX7_isDigit 8 = .ok (.invokestatic 61, 3) := by decide +kernel
theorem dX7_isDigit_11 : decode cX7_isDigit 11 = .ok (.ireturn, 1) := by decide +kernel
theorem dX7_next_0 : decode cX7_next 0 = .ok (.aload_n 0, 1) := by decide +kernel
theorem dX7_next_1 : decode cX7_next 1 = .ok (.aload_n 0, 1) := by decide +kernel
theorem dX7_next_2 : decode cX7_next 2 = .ok (.getfield 95, 3) := by decide +kernel
theorem dX7_next_5 : decode cX7_next 5 = .ok (.putfield 98, 3) := by decide +kernel
theorem dX7_next_8 : decode cX7_next 8 = .ok (.aload_n 0, 1) := by decide +kernel
theorem dX7_next_9 : decode cX7_next 9 = .ok (.aload_n 0, 1) := by decide +kernel
theorem dX7_next_10 : decode cX7_next 10 = .ok (.getfield 98, 3) := by decide +kernel
theorem dX7_next_13 : decode cX7_next 13 = .ok (.invokevirtual 101, 3) := by decide +kernel
theorem dX7_next_16 : decode cX7_next 16 = .ok (.bipush 32, 2) := by decide +kernel
theorem dX7_next_18 : decode cX7_next 18 = .ok (.if_icmp .ne 16, 3) := by decide +kernel
theorem dX7_next_21 : decode cX7_next 21 = .ok (.aload_n 0, 1) := by decide +kernel
theorem dX7_next_22 : decode cX7_next 22 = .ok (.dup, 1) := by decide +kernel
theorem dX7_next_23 : decode cX7_next 23 = .ok (.getfield 98, 3) := by decide +kernel
theorem dX7_next_26 : decode cX7_next 26 = .ok (.iconst 1, 1) := by decide +kernel
theorem dX7_next_27 : decode cX7_next 27 = .ok (.iadd, 1) := by decide +kernel
theorem dX7_next_28 : decode cX7_next 28 = .ok (.putfield 98, 3) := by decide +kernel
theorem dX7_next_31 : decode cX7_next 31 = .ok (.goto (-23), 3) := by decide +kernel
theorem dX7_next_34 : decode cX7_next 34 = .ok (.aload_n 0, 1) := by decide +kernel
theorem dX7_next_35 : decode cX7_next 35 = .ok (.aload_n 0, 1) := by decide +kernel
theorem dX7_next_36 : decode cX7_next 36 = .ok (.getfield 98, 3) := by decide +kernel
theorem dX7_next_39 : decode cX7_next 39 = .ok (.putfield 95, 3) := by decide +kernel
theorem dX7_next_42 : decode cX7_next 42 = .ok (.aload_n 0, 1) := by decide +kernel
theorem dX7_next_43 : decode cX7_next 43 = .ok (.getfield 98, 3) := by decide +kernel
theorem dX7_next_46 : decode cX7_next 46 = .ok (.aload_n 0, 1) := by decide +kernel
theorem dX7_next_47 : decode cX7_next 47 = .ok (.getfield 84, 3) := by decide +kernel
theorem dX7_next_50 : decode cX7_next 50 = .ok (.if_icmp .lt 11, 3) := by decide +kernel
theorem dX7_next_53 : decode cX7_next 53 = .ok (.aload_n 0, 1) := by decide +kernel
theorem dX7_next_54 : decode cX7_next 54 = .ok (.iconst 3, 1) := by decide +kernel
theorem dX7_next_55 : decode cX7_next 55 = .ok (.putfield 105, 3) := by decide +kernel
theorem dX7_next_58 : decode cX7_next 58 = .ok (.goto 154, 3) := by decide +kernel
theorem dX7_next_61 : decode cX7_next 61 = .ok (.aload_n 0, 1) := by decide +kernel
theorem dX7_next_62 : decode cX7_next 62 = .ok (.aload_n 0, 1) := by decide +kernel
theorem dX7_next_63 : decode cX7_next 63 = .ok (.getfield 98, 3) := by decide +kernel
theorem dX7_next_66 : decode cX7_next 66 = .ok (.invokevirtual 101, 3) := by decide +kernel
theorem dX7_next_69 : decode cX7_next 69 = .ok (.invokestatic 108, 3) := by decide +kernel
theorem dX7_next_72 : decode cX7_next 72 = .ok (.ifCond .eq 38, 3) := by decide +kernel
theorem dX7_next_75 : decode cX7_next 75 = .ok (.aload_n 0, 1) := by decide +kernel
theorem dX7_next_76 : decode cX7_next 76 = .ok (.aload_n 0, 1) := by decide +kernel
theorem dX7_next_77 : decode cX7_next 77 = .ok (.getfield 95, 3) := by decide +kernel
theorem dX7_next_80 : decode cX7_next 80 = .ok (.invokevirtual 101, 3) := by decide +kernel
theorem dX7_next_83 : decode cX7_next 83 = .ok (.invokestatic 108, 3) := by decide +kernel
theorem dX7_next_86 : decode cX7_next 86 = .ok (.ifCond .eq 16, 3) := by decide +kernel
theorem dX7_next_89 : decode cX7_next 89 = .ok (.aload_n 0, 1) := by decide +kernel
theorem dX7_next_90 : decode cX7_next 90 = .ok (.dup, 1) := by decide +kernel
theorem dX7_next_91 : decode cX7_next 91 = .ok (.getfield 95, 3) := by decide +kernel
theorem dX7_next_94 : decode cX7_next 94 = .ok (.iconst 1, 1) := by decide +kernel
theorem dX7_next_95 : decode cX7_next 95 = .ok (.iadd, 1) := by decide +kernel
theorem dX7_next_96 : decode cX7_next 96 = .ok (.putfield 95, 3) := by decide +kernel
theorem dX7_next_99 : decode cX7_next 99 = .ok (.goto (-24), 3) := by decide +kernel
theorem dX7_next_102 : decode cX7_next 102 = .ok (.aload_n 0, 1) := by decide +kernel
theorem dX7_next_103 : decode cX7_next 103 = .ok (.iconst 0, 1) := by decide +kernel
theorem dX7_next_104 : decode cX7_next 104 = .ok (.putfield 105, 3) := by decide +kernel
theorem dX7_next_107 : decode cX7_next 107 = .ok (.goto 105, 3) := by decide +kernel
theorem dX7_next_110 : decode cX7_next 110 = .ok (.aload_n 0, 1) := by decide +kernel
theorem dX7_next_111 : decode cX7_next 111 = .ok (.aload_n 0, 1) := by decide +kernel
theorem dX7_next_112 : decode cX7_next 112 = .ok (.getfield 98, 3) := by decide +kernel
theorem dX7_next_115 : decode cX7_next 115 = .ok (.invokevirtual 101, 3) := by decide +kernel
theorem dX7_next_118 : decode cX7_next 118 = .ok (.invokestatic 112, 3) := by decide +kernel
theorem dX7_next_121 : decode cX7_next 121 = .ok (.ifCond .eq 76, 3) := by decide +kernel
theorem dX7_next_124 : decode cX7_next 124 = .ok (.aload_n 0, 1) := by decide +kernel
theorem dX7_next_125 : decode cX7_next 125 = .ok (.iconst 0, 1) := by decide +kernel
theorem dX7_next_126 : decode cX7_next 126 = .ok (.putfield 115, 3) := by decide +kernel
theorem dX7_next_129 : decode cX7_next 129 = .ok (.aload_n 0, 1) := by decide +kernel
theorem dX7_next_130 : decode cX7_next 130 = .ok (.aload_n 0, 1) := by decide +kernel
theorem dX7_next_131 : decode cX7_next 131 = .ok (.getfield 95, 3) := by decide +kernel
theorem dX7_next_134 : decode cX7_next 134 = .ok (.invokevirtual 101, 3) := by decide +kernel
theorem dX7_next_137 : decode cX7_next 137 = .ok (.invokestatic 112, 3) := by decide +kernel
theorem dX7_next_140 : decode cX7_next 140 = .ok (.ifCond .eq 49, 3) := by decide +kernel
theorem dX7_next_143 : decode cX7_next 143 = .ok (.aload_n 0, 1) := by decide +kernel
theorem dX7_next_144 : decode cX7_next 144 = .ok (.getfield 115, 3) := by decide +kernel
theorem dX7_next_147 : decode cX7_next 147 = .ok (.sipush 1000, 3) := by decide +kernel
theorem dX7_next_150 : decode cX7_next 150 = .ok (.if_icmp .ge 26, 3) := by decide +kernel
theorem dX7_next_153 : decode cX7_next 153 = .ok (.aload_n 0, 1) := by decide +kernel
theorem dX7_next_154 : decode cX7_next 154 = .ok (.bipush 10, 2) := by decide +kernel
theorem dX7_next_156 : decode cX7_next 156 = .ok (.aload_n 0, 1) := by decide +kernel
theorem dX7_next_157 : decode cX7_next 157 = .ok (.getfield 115, 3) := by decide +kernel
theorem dX7_next_160 : decode cX7_next 160 = .ok (.imul, 1) := by decide +kernel
theorem dX7_next_161 : decode cX7_next 161 = .ok (.aload_n 0, 1) := by decide +kernel
theorem dX7_next_162 : decode cX7_next 162 = .ok (.aload_n 0, 1) := by decide +kernel
theorem dX7_next_163 : decode cX7_next 163 = .ok (.getfield 95, 3) := by decide +kernel
theorem dX7_next_166 : decode cX7_next 166 = .ok (.invokevirtual 101, 3) := by decide +kernel
theorem dX7_next_169 : decode cX7_next 169 = .ok (.iadd, 1) := by decide +kernel
theorem dX7_next_170 : decode cX7_next 170 = .ok (.bipush 48, 2) := by decide +kernel
theorem dX7_next_172 : decode cX7_next 172 = .ok (.isub, 1) := by decide +kernel
theorem dX7_next_173 : decode cX7_next 173 = .ok (.putfield 115, 3) := by decide +kernel
theorem dX7_next_176 : decode cX7_next 176 = .ok (.aload_n 0, 1) := by decide +kernel
theorem dX7_next_177 : decode cX7_next 177 = .ok (.dup, 1) := by decide +kernel
theorem dX7_next_178 : decode cX7_next 178 = .ok (.getfield 95, 3) := by decide +kernel
theorem dX7_next_181 : decode cX7_next 181 = .ok (.iconst 1, 1) := by decide +kernel
theorem dX7_next_182 : decode cX7_next 182 = .ok (.iadd, 1) := by decide +kernel
theorem dX7_next_183 : decode cX7_next 183 = .ok (.putfield 95, 3) := by decide +kernel
theorem dX7_next_186 : decode cX7_next 186 = .ok (.goto (-57), 3) := by decide +kernel
theorem dX7_next_189 : decode cX7_next 189 = .ok (.aload_n 0, 1) := by decide +kernel
theorem dX7_next_190 : decode cX7_next 190 = .ok (.iconst 1, 1) := by decide +kernel
theorem dX7_next_191 : decode cX7_next 191 = .ok (.putfield 105, 3) := by decide +kernel
theorem dX7_next_194 : decode cX7_next 194 = .ok (.goto 18, 3) := by decide +kernel
theorem dX7_next_197 : decode cX7_next 197 = .ok (.aload_n 0, 1) := by decide +kernel
theorem dX7_next_198 : decode cX7_next 198 = .ok (.dup, 1) := by decide +kernel
theorem dX7_next_199 : decode cX7_next 199 = .ok (.getfield 95, 3) := by decide +kernel
theorem dX7_next_202 : decode cX7_next 202 = .ok (.iconst 1, 1) := by decide +kernel
theorem dX7_next_203 : decode cX7_next 203 = .ok (.iadd, 1) := by decide +kernel
theorem dX7_next_204 : decode cX7_next 204 = .ok (.putfield 95, 3) := by decide +kernel
theorem dX7_next_207 : decode cX7_next 207 = .ok (.aload_n 0, 1) := by decide +kernel
theorem dX7_next_208 : decode cX7_next 208 = .ok (.iconst 2, 1) := by decide +kernel
theorem dX7_next_209 : decode cX7_next 209 = .ok (.putfield 105, 3) := by decide +kernel
theorem dX7_next_212 : decode cX7_next 212 = .ok (.return_, 1) := by decide +kernel
theorem dX7_isWord_0 : decode cX7_isWord 0 = .ok (.aload_n 0, 1) := by decide +kernel
theorem dX7_isWord_1 : decode cX7_isWord 1 = .ok (.getfield 118, 3) := by decide +kernel
theorem dX7_isWord_4 : decode cX7_isWord 4 = .ok (.ifCond .ne 26, 3) := by decide +kernel
theorem dX7_isWord_7 : decode cX7_isWord 7 = .ok (.aload_n 0, 1) := by decide +kernel
theorem dX7_isWord_8 : decode cX7_isWord 8 = .ok (.getfield 105, 3) := by decide +kernel
theorem dX7_isWord_11 : decode cX7_isWord 11 = .ok (.ifCond .ne 19, 3) := by decide +kernel
theorem dX7_isWord_14 : decode cX7_isWord 14 = .ok (.aload_n 0, 1) := by decide +kernel
theorem dX7_isWord_15 : decode cX7_isWord 15 = .ok (.getfield 95, 3) := by decide +kernel
theorem dX7_isWord_18 : decode cX7_isWord 18 = .ok (.aload_n 0, 1) := by decide +kernel
theorem dX7_isWord_19 : decode cX7_isWord 19 = .ok (.getfield 98, 3) := by decide +kernel
theorem dX7_isWord_22 : decode cX7_isWord 22 = .ok (.isub, 1) := by decide +kernel
theorem dX7_isWord_23 : decode cX7_isWord 23 = .ok (.aload_n 1, 1) := by decide +kernel
theorem dX7_isWord_24 : decode cX7_isWord 24 = .ok (.invokevirtual 121, 3) := by decide +kernel
theorem dX7_isWord_27 : decode cX7_isWord 27 = .ok (.if_icmp .eq 5, 3) := by decide +kernel
theorem dX7_isWord_30 : decode cX7_isWord 30 = .ok (.iconst 0, 1) := by decide +kernel
theorem dX7_isWord_31 : decode cX7_isWord 31 = .ok (.ireturn, 1) := by decide +kernel
theorem dX7_isWord_32 : decode cX7_isWord 32 = .ok (.iconst 0, 1) := by decide +kernel
theorem dX7_isWord_33 : decode cX7_isWord 33 = .ok (.istore_n 2, 1) := by decide +kernel
theorem dX7_isWord_34 : decode cX7_isWord 34 = .ok (.iload_n 2, 1) := by decide +kernel
theorem dX7_isWord_35 : decode cX7_isWord 35 = .ok (.aload_n 1, 1) := by decide +kernel
theorem dX7_isWord_36 : decode cX7_isWord 36 = .ok (.invokevirtual 121, 3) := by decide +kernel
theorem dX7_isWord_39 : decode cX7_isWord 39 = .ok (.if_icmp .ge 30, 3) := by decide +kernel
theorem dX7_isWord_42 : decode cX7_isWord 42 = .ok (.aload_n 0, 1) := by decide +kernel
theorem dX7_isWord_43 : decode cX7_isWord 43 = .ok (.getfield 26, 3) := by decide +kernel
theorem dX7_isWord_46 : decode cX7_isWord 46 = .ok (.aload_n 0, 1) := by decide +kernel
theorem dX7_isWord_47 : decode cX7_isWord 47 = .ok (.getfield 98, 3) := by decide +kernel
theorem dX7_isWord_50 : decode cX7_isWord 50 = .ok (.iload_n 2, 1) := by decide +kernel
theorem dX7_isWord_51 : decode cX7_isWord 51 = .ok (.iadd, 1) := by decide +kernel
theorem dX7_isWord_52 : decode cX7_isWord 52 = .ok (.iaload, 1) := by decide +kernel
theorem dX7_isWord_53 : decode cX7_isWord 53 = .ok (.aload_n 1, 1) := by decide +kernel
theorem dX7_isWord_54 : decode cX7_isWord 54 = .ok (.iload_n 2, 1) := by decide +kernel
theorem dX7_isWord_55 : decode cX7_isWord 55 = .ok (.invokevirtual 126, 3) := by decide +kernel
theorem dX7_isWord_58 : decode cX7_isWord 58 = .ok (.if_icmp .eq 5, 3) := by decide +kernel
theorem dX7_isWord_61 : decode cX7_isWord 61 = .ok (.iconst 0, 1) := by decide +kernel
theorem dX7_isWord_62 : decode cX7_isWord 62 = .ok (.ireturn, 1) := by decide +kernel
theorem dX7_isWord_63 : decode cX7_isWord 63 = .ok (.iinc 2 1, 3) := by decide +kernel
theorem dX7_isWord_66 : decode cX7_isWord 66 = .ok (.goto (-32), 3) := by decide +kernel
theorem dX7_isWord_69 : decode cX7_isWord 69 = .ok (.iconst 1, 1) := by decide +kernel
theorem dX7_isWord_70 : decode cX7_isWord 70 = .ok (.ireturn, 1) := by decide +kernel
theorem dX7_fails_0 : decode cX7_fails 0 = .ok (.aload_n 0, 1) := by decide +kernel
theorem dX7_fails_1 : decode cX7_fails 1 = .ok (.getfield 118, 3) := by decide +kernel
theorem dX7_fails_4 : decode cX7_fails 4 = .ok (.ifCond .eq 4, 3) := by decide +kernel
theorem dX7_fails_7 : decode cX7_fails 7 = .ok (.return_, 1) := by decide +kernel
theorem dX7_fails_8 : decode cX7_fails 8 = .ok (.aload_n 0, 1) := by decide +kernel
theorem dX7_fails_9 : decode cX7_fails 9 = .ok (.iload_n 1, 1) := by decide +kernel
theorem dX7_fails_10 : decode cX7_fails 10 = .ok (.putfield 118, 3) := by decide +kernel
theorem dX7_fails_13 : decode cX7_fails 13 = .ok (.aload_n 0, 1) := by decide +kernel
theorem dX7_fails_14 : decode cX7_fails 14 = .ok (.aload_n 0, 1) := by decide +kernel
theorem dX7_fails_15 : decode cX7_fails 15 = .ok (.getfield 98, 3) := by decide +kernel
theorem dX7_fails_18 : decode cX7_fails 18 = .ok (.putfield 130, 3) := by decide +kernel
theorem dX7_fails_21 : decode cX7_fails 21 = .ok (.return_, 1) := by decide +kernel
theorem dX7_must_0 : decode cX7_must 0 = .ok (.iload_n 1, 1) := by decide +kernel
theorem dX7_must_1 : decode cX7_must 1 = .ok (.ifCond .ne 9, 3) := by decide +kernel
theorem dX7_must_4 : decode cX7_must 4 = .ok (.aload_n 0, 1) := by decide +kernel
theorem dX7_must_5 : decode cX7_must 5 = .ok (.bipush (-2), 2) := by decide +kernel
theorem dX7_must_7 : decode cX7_must 7 = .ok (.invokevirtual 133, 3) := by decide +kernel
theorem dX7_must_10 : decode cX7_must 10 = .ok (.aload_n 0, 1) := by decide +kernel
theorem dX7_must_11 : decode cX7_must 11 = .ok (.getfield 118, 3) := by decide +kernel
theorem dX7_must_14 : decode cX7_must 14 = .ok (.ifCond .ne 7, 3) := by decide +kernel
theorem dX7_must_17 : decode cX7_must 17 = .ok (.aload_n 0, 1) := by decide +kernel
theorem dX7_must_18 : decode cX7_must 18 = .ok (.invokevirtual 137, 3) := by decide +kernel
theorem dX7_must_21 : decode cX7_must 21 = .ok (.return_, 1) := by decide +kernel
theorem dX7_semicolon_0 : decode cX7_semicolon 0 = .ok (.aload_n 0, 1) := by decide +kernel
theorem dX7_semicolon_1 : decode cX7_semicolon 1 = .ok (.aload_n 0, 1) := by decide +kernel
theorem dX7_semicolon_2 : decode cX7_semicolon 2 = .ok (.getfield 105, 3) := by decide +kernel
theorem dX7_semicolon_5 : decode cX7_semicolon 5 = .ok (.iconst 2, 1) := by decide +kernel
theorem dX7_semicolon_6 : decode cX7_semicolon 6 = .ok (.if_icmp .ne 20, 3) := by decide +kernel
theorem dX7_semicolon_9 : decode cX7_semicolon 9 = .ok (.aload_n 0, 1) := by decide +kernel
theorem dX7_semicolon_10 : decode cX7_semicolon 10 = .ok (.aload_n 0, 1) := by decide +kernel
theorem dX7_semicolon_11 : decode cX7_semicolon 11 = .ok (.getfield 98, 3) := by decide +kernel
theorem dX7_semicolon_14 : decode cX7_semicolon 14 = .ok (.invokevirtual 101, 3) := by decide +kernel
theorem dX7_semicolon_17 : decode cX7_semicolon 17 = .ok (.bipush 59, 2) := by decide +kernel
theorem dX7_semicolon_19 : decode cX7_semicolon 19 = .ok (.if_icmp .ne 7, 3) := by decide +kernel
theorem dX7_semicolon_22 : decode cX7_semicolon 22 = .ok (.iconst 1, 1) := by decide +kernel
theorem dX7_semicolon_23 : decode cX7_semicolon 23 = .ok (.goto 4, 3) := by decide +kernel
theorem dX7_semicolon_26 : decode cX7_semicolon 26 = .ok (.iconst 0, 1) := by decide +kernel
theorem dX7_semicolon_27 : decode cX7_semicolon 27 = .ok (.invokevirtual 140, 3) := by decide +kernel
theorem dX7_semicolon_30 : decode cX7_semicolon 30 = .ok (.return_, 1) := by decide +kernel
theorem dX7_takes_0 : decode cX7_takes 0 = .ok (.aload_n 0, 1) := by decide +kernel
theorem dX7_takes_1 : decode cX7_takes 1 = .ok (.getfield 118, 3) := by decide +kernel
theorem dX7_takes_4 : decode cX7_takes 4 = .ok (.ifCond .ne 20, 3) := by decide +kernel
theorem dX7_takes_7 : decode cX7_takes 7 = .ok (.aload_n 0, 1) := by decide +kernel
theorem dX7_takes_8 : decode cX7_takes 8 = .ok (.getfield 105, 3) := by decide +kernel
theorem dX7_takes_11 : decode cX7_takes 11 = .ok (.iconst 1, 1) := by decide +kernel
theorem dX7_takes_12 : decode cX7_takes 12 = .ok (.if_icmp .eq 12, 3) := by decide +kernel
theorem dX7_takes_15 : decode cX7_takes 15 = .ok (.aload_n 0, 1) := by decide +kernel
theorem dX7_takes_16 : decode cX7_takes 16 = .ok (.bipush (-2), 2) := by decide +kernel
theorem dX7_takes_18 : decode cX7_takes 18 = .ok (.invokevirtual 133, 3) := by decide +kernel
theorem dX7_takes_21 : decode cX7_takes 21 = .ok (.goto 31, 3) := by decide +kernel
theorem dX7_takes_24 : decode cX7_takes 24 = .ok (.aload_n 0, 1) := by decide +kernel
theorem dX7_takes_25 : decode cX7_takes 25 = .ok (.getfield 118, 3) := by decide +kernel
theorem dX7_takes_28 : decode cX7_takes 28 = .ok (.ifCond .ne 24, 3) := by decide +kernel
theorem dX7_takes_31 : decode cX7_takes 31 = .ok (.aload_n 0, 1) := by decide +kernel
theorem dX7_takes_32 : decode cX7_takes 32 = .ok (.getfield 115, 3) := by decide +kernel
theorem dX7_takes_35 : decode cX7_takes 35 = .ok (.i2l, 1) := by decide +kernel
theorem dX7_takes_36 : decode cX7_takes 36 = .ok (.iload_n 1, 1) := by decide +kernel
theorem dX7_takes_37 : decode cX7_takes 37 = .ok (.i2l, 1) := by decide +kernel
theorem dX7_takes_38 : decode cX7_takes 38 = .ok (.iload_n 2, 1) := by decide +kernel
theorem dX7_takes_39 : decode cX7_takes 39 = .ok (.i2l, 1) := by decide +kernel
theorem dX7_takes_40 : decode cX7_takes 40 = .ok (.invokestatic 61, 3) := by decide +kernel
theorem dX7_takes_43 : decode cX7_takes 43 = .ok (.ifCond .ne 9, 3) := by decide +kernel
theorem dX7_takes_46 : decode cX7_takes 46 = .ok (.aload_n 0, 1) := by decide +kernel
theorem dX7_takes_47 : decode cX7_takes 47 = .ok (.bipush (-3), 2) := by decide +kernel
theorem dX7_takes_49 : decode cX7_takes 49 = .ok (.invokevirtual 133, 3) := by decide +kernel
theorem dX7_takes_52 : decode cX7_takes 52 = .ok (.aload_n 0, 1) := by decide +kernel
theorem dX7_takes_53 : decode cX7_takes 53 = .ok (.getfield 115, 3) := by decide +kernel
theorem dX7_takes_56 : decode cX7_takes 56 = .ok (.istore_n 3, 1) := by decide +kernel
theorem dX7_takes_57 : decode cX7_takes 57 = .ok (.aload_n 0, 1) := by decide +kernel
theorem dX7_takes_58 : decode cX7_takes 58 = .ok (.getfield 118, 3) := by decide +kernel
theorem dX7_takes_61 : decode cX7_takes 61 = .ok (.ifCond .ne 7, 3) := by decide +kernel
theorem dX7_takes_64 : decode cX7_takes 64 = .ok (.aload_n 0, 1) := by decide +kernel
theorem dX7_takes_65 : decode cX7_takes 65 = .ok (.invokevirtual 137, 3) := by decide +kernel
theorem dX7_takes_68 : decode cX7_takes 68 = .ok (.iload_n 3, 1) := by decide +kernel
theorem dX7_takes_69 : decode cX7_takes 69 = .ok (.ireturn, 1) := by decide +kernel
theorem dX7_readsOption_0 : decode cX7_readsOption 0 = .ok (.aload_n 0, 1) := by decide +kernel
theorem dX7_readsOption_1 : decode cX7_readsOption 1 = .ok (.ldc 144, 2) := by decide +kernel
theorem dX7_readsOption_3 : decode cX7_readsOption 3 = .ok (.invokevirtual 146, 3) := by decide +kernel
theorem dX7_readsOption_6 : decode cX7_readsOption 6 = .ok (.ifCond .eq 25, 3) := by decide +kernel
theorem dX7_readsOption_9 : decode cX7_readsOption 9 = .ok (.aload_n 0, 1) := by decide +kernel
theorem dX7_readsOption_10 : decode cX7_readsOption 10 = .ok (.iconst 1, 1) := by decide +kernel
theorem dX7_readsOption_11 : decode cX7_readsOption 11 = .ok (.invokevirtual 140, 3) := by decide +kernel
theorem dX7_readsOption_14 : decode cX7_readsOption 14 = .ok (.aload_n 0, 1) := by decide +kernel
theorem dX7_readsOption_15 : decode cX7_readsOption 15 = .ok (.getfield 13, 3) := by decide +kernel
theorem dX7_readsOption_18 : decode cX7_readsOption 18 = .ok (.bipush 8, 2) := by decide +kernel
theorem dX7_readsOption_20 : decode cX7_readsOption 20 = .ok (.aload_n 0, 1) := by decide +kernel
theorem dX7_readsOption_21 : decode cX7_readsOption 21 = .ok (.iconst 0, 1) := by decide +kernel
theorem dX7_readsOption_22 : decode cX7_readsOption 22 = .ok (.iconst 1, 1) := by decide +kernel
theorem dX7_readsOption_23 : decode cX7_readsOption 23 = .ok (.invokevirtual 150, 3) := by decide +kernel
theorem dX7_readsOption_26 : decode cX7_readsOption 26 = .ok (.i2l, 1) := by decide +kernel
theorem dX7_readsOption_27 : decode cX7_readsOption 27 = .ok (.lastore, 1) := by decide +kernel
theorem dX7_readsOption_28 : decode cX7_readsOption 28 = .ok (.goto 103, 3) := by decide +kernel
theorem dX7_readsOption_31 : decode cX7_readsOption 31 = .ok (.aload_n 0, 1) := by decide +kernel
theorem dX7_readsOption_32 : decode cX7_readsOption 32 = .ok (.ldc 154, 2) := by decide +kernel
theorem dX7_readsOption_34 : decode cX7_readsOption 34 = .ok (.invokevirtual 146, 3) := by decide +kernel
theorem dX7_readsOption_37 : decode cX7_readsOption 37 = .ok (.ifCond .eq 26, 3) := by decide +kernel
theorem dX7_readsOption_40 : decode cX7_readsOption 40 = .ok (.aload_n 0, 1) := by decide +kernel
theorem dX7_readsOption_41 : decode cX7_readsOption 41 = .ok (.iconst 1, 1) := by decide +kernel
theorem dX7_readsOption_42 : decode cX7_readsOption 42 = .ok (.invokevirtual 140, 3) := by decide +kernel
theorem dX7_readsOption_45 : decode cX7_readsOption 45 = .ok (.aload_n 0, 1) := by decide +kernel
theorem dX7_readsOption_46 : decode cX7_readsOption 46 = .ok (.getfield 13, 3) := by decide +kernel
theorem dX7_readsOption_49 : decode cX7_readsOption 49 = .ok (.bipush 9, 2) := by decide +kernel
theorem dX7_readsOption_51 : decode cX7_readsOption 51 = .ok (.aload_n 0, 1) := by decide +kernel
theorem dX7_readsOption_52 : decode cX7_readsOption 52 = .ok (.iconst 0, 1) := by decide +kernel
theorem dX7_readsOption_53 : decode cX7_readsOption 53 = .ok (.bipush 99, 2) := by decide +kernel
theorem dX7_readsOption_55 : decode cX7_readsOption 55 = .ok (.invokevirtual 150, 3) := by decide +kernel
theorem dX7_readsOption_58 : decode cX7_readsOption 58 = .ok (.i2l, 1) := by decide +kernel
theorem dX7_readsOption_59 : decode cX7_readsOption 59 = .ok (.lastore, 1) := by decide +kernel
theorem dX7_readsOption_60 : decode cX7_readsOption 60 = .ok (.goto 71, 3) := by decide +kernel
theorem dX7_readsOption_63 : decode cX7_readsOption 63 = .ok (.aload_n 0, 1) := by decide +kernel
theorem dX7_readsOption_64 : decode cX7_readsOption 64 = .ok (.ldc 156, 2) := by decide +kernel
theorem dX7_readsOption_66 : decode cX7_readsOption 66 = .ok (.invokevirtual 146, 3) := by decide +kernel
theorem dX7_readsOption_69 : decode cX7_readsOption 69 = .ok (.ifCond .eq 60, 3) := by decide +kernel
theorem dX7_readsOption_72 : decode cX7_readsOption 72 = .ok (.aload_n 0, 1) := by decide +kernel
theorem dX7_readsOption_73 : decode cX7_readsOption 73 = .ok (.iconst 1, 1) := by decide +kernel
theorem dX7_readsOption_74 : decode cX7_readsOption 74 = .ok (.invokevirtual 140, 3) := by decide +kernel
theorem dX7_readsOption_77 : decode cX7_readsOption 77 = .ok (.aload_n 0, 1) := by decide +kernel
theorem dX7_readsOption_78 : decode cX7_readsOption 78 = .ok (.getfield 13, 3) := by decide +kernel
theorem dX7_readsOption_81 : decode cX7_readsOption 81 = .ok (.iconst 2, 1) := by decide +kernel
theorem dX7_readsOption_82 : decode cX7_readsOption 82 = .ok (.aload_n 0, 1) := by decide +kernel
theorem dX7_readsOption_83 : decode cX7_readsOption 83 = .ok (.ldc 158, 2) := by decide +kernel
theorem dX7_readsOption_85 : decode cX7_readsOption 85 = .ok (.invokevirtual 146, 3) := by decide +kernel
theorem dX7_readsOption_88 : decode cX7_readsOption 88 = .ok (.ifCond .eq 9, 3) := by decide +kernel
theorem dX7_readsOption_91 : decode cX7_readsOption 91 = .ok (.ldc2_w 79, 3) := by decide +kernel
theorem dX7_readsOption_94 : decode cX7_readsOption 94 = .ok (.goto 4, 3) := by decide +kernel
theorem dX7_readsOption_97 : decode cX7_readsOption 97 = .ok (.lconst 1, 1) := by decide +kernel
theorem dX7_readsOption_98 : decode cX7_readsOption 98 = .ok (.lastore, 1) := by decide +kernel
theorem dX7_readsOption_99 : decode cX7_readsOption 99 = .ok (.aload_n 0, 1) := by decide +kernel
theorem dX7_readsOption_100 : decode cX7_readsOption 100 = .ok (.aload_n 0, 1) := by decide +kernel
theorem dX7_readsOption_101 : decode cX7_readsOption 101 = .ok (.ldc 158, 2) := by decide +kernel
theorem dX7_readsOption_103 : decode cX7_readsOption 103 = .ok (.invokevirtual 146, 3) := by decide +kernel
theorem dX7_readsOption_106 : decode cX7_readsOption 106 = .ok (.ifCond .ne 12, 3) := by decide +kernel
theorem dX7_readsOption_109 : decode cX7_readsOption 109 = .ok (.aload_n 0, 1) := by decide +kernel
theorem dX7_readsOption_110 : decode cX7_readsOption 110 = .ok (.ldc 160, 2) := by decide +kernel
theorem dX7_readsOption_112 : decode cX7_readsOption 112 = .ok (.invokevirtual 146, 3) := by decide +kernel
theorem dX7_readsOption_115 : decode cX7_readsOption 115 = .ok (.ifCond .eq 7, 3) := by decide +kernel
theorem dX7_readsOption_118 : decode cX7_readsOption 118 = .ok (.iconst 1, 1) := by decide +kernel
theorem dX7_readsOption_119 : decode cX7_readsOption 119 = .ok (.goto 4, 3) := by decide +kernel
theorem dX7_readsOption_122 : decode cX7_readsOption 122 = .ok (.iconst 0, 1) := by decide +kernel
theorem dX7_readsOption_123 : decode cX7_readsOption 123 = .ok (.invokevirtual 140, 3) := by decide +kernel
theorem dX7_readsOption_126 : decode cX7_readsOption 126 = .ok (.goto 5, 3) := by decide +kernel
theorem dX7_readsOption_129 : decode cX7_readsOption 129 = .ok (.iconst 0, 1) := by decide +kernel
theorem dX7_readsOption_130 : decode cX7_readsOption 130 = .ok (.ireturn, 1) := by decide +kernel
theorem dX7_readsOption_131 : decode cX7_readsOption 131 = .ok (.aload_n 0, 1) := by decide +kernel
theorem dX7_readsOption_132 : decode cX7_readsOption 132 = .ok (.invokevirtual 162, 3) := by decide +kernel
theorem dX7_readsOption_135 : decode cX7_readsOption 135 = .ok (.aload_n 0, 1) := by decide +kernel
theorem dX7_readsOption_136 : decode cX7_readsOption 136 = .ok (.getfield 118, 3) := by decide +kernel
theorem dX7_readsOption_139 : decode cX7_readsOption 139 = .ok (.ifCond .ne 7, 3) := by decide +kernel
theorem dX7_readsOption_142 : decode cX7_readsOption 142 = .ok (.iconst 1, 1) := by decide +kernel
theorem dX7_readsOption_143 : decode cX7_readsOption 143 = .ok (.goto 4, 3) := by decide +kernel
theorem dX7_readsOption_146 : decode cX7_readsOption 146 = .ok (.iconst 0, 1) := by decide +kernel
theorem dX7_readsOption_147 : decode cX7_readsOption 147 = .ok (.ireturn, 1) := by decide +kernel
theorem dX7_readsRow_0 : decode cX7_readsRow 0 = .ok (.aload_n 0, 1) := by decide +kernel
theorem dX7_readsRow_1 : decode cX7_readsRow 1 = .ok (.aload_n 0, 1) := by decide +kernel
theorem dX7_readsRow_2 : decode cX7_readsRow 2 = .ok (.ldc 165, 2) := by decide +kernel
theorem dX7_readsRow_4 : decode cX7_readsRow 4 = .ok (.invokevirtual 146, 3) := by decide +kernel
theorem dX7_readsRow_7 : decode cX7_readsRow 7 = .ok (.invokevirtual 140, 3) := by decide +kernel
theorem dX7_readsRow_10 : decode cX7_readsRow 10 = .ok (.aload_n 0, 1) := by decide +kernel
theorem dX7_readsRow_11 : decode cX7_readsRow 11 = .ok (.getfield 118, 3) := by decide +kernel
theorem dX7_readsRow_14 : decode cX7_readsRow 14 = .ok (.ifCond .ne 16, 3) := by decide +kernel
theorem dX7_readsRow_17 : decode cX7_readsRow 17 = .ok (.aload_n 0, 1) := by decide +kernel
theorem dX7_readsRow_18 : decode cX7_readsRow 18 = .ok (.getfield 105, 3) := by decide +kernel
theorem dX7_readsRow_21 : decode cX7_readsRow 21 = .ok (.ifCond .eq 9, 3) := by decide +kernel
theorem dX7_readsRow_24 : decode cX7_readsRow 24 = .ok (.aload_n 0, 1) := by decide +kernel
theorem dX7_readsRow_25 : decode cX7_readsRow 25 = .ok (.bipush (-2), 2) := by decide +kernel
theorem dX7_readsRow_27 : decode cX7_readsRow 27 = .ok (.invokevirtual 133, 3) := by decide +kernel
theorem dX7_readsRow_30 : decode cX7_readsRow 30 = .ok (.aload_n 0, 1) := by decide +kernel
theorem dX7_readsRow_31 : decode cX7_readsRow 31 = .ok (.getfield 95, 3) := by decide +kernel
theorem dX7_readsRow_34 : decode cX7_readsRow 34 = .ok (.aload_n 0, 1) := by decide +kernel
theorem dX7_readsRow_35 : decode cX7_readsRow 35 = .ok (.getfield 98, 3) := by decide +kernel
theorem dX7_readsRow_38 : decode cX7_readsRow 38 = .ok (.isub, 1) := by decide +kernel
theorem dX7_readsRow_39 : decode cX7_readsRow 39 = .ok (.i2l, 1) := by decide +kernel
theorem dX7_readsRow_40 : decode cX7_readsRow 40 = .ok (.aload_n 0, 1) := by decide +kernel
theorem dX7_readsRow_41 : decode cX7_readsRow 41 = .ok (.getfield 13, 3) := by decide +kernel
theorem dX7_readsRow_44 : decode cX7_readsRow 44 = .ok (.iconst 1, 1) := by decide +kernel
theorem dX7_readsRow_45 : decode cX7_readsRow 45 = .ok (.laload, 1) := by decide +kernel
theorem dX7_readsRow_46 : decode cX7_readsRow 46 = .ok (.lcmp, 1) := by decide +kernel
theorem dX7_readsRow_47 : decode cX7_readsRow 47 = .ok (.ifCond .ne 7, 3) := by decide +kernel
theorem dX7_readsRow_50 : decode cX7_readsRow 50 = .ok (.iconst 1, 1) := by decide +kernel
theorem dX7_readsRow_51 : decode cX7_readsRow 51 = .ok (.goto 4, 3) := by decide +kernel
theorem dX7_readsRow_54 : decode cX7_readsRow 54 = .ok (.iconst 0, 1) := by decide +kernel
theorem dX7_readsRow_55 : decode cX7_readsRow 55 = .ok (.istore_n 2, 1) := by decide +kernel
theorem dX7_readsRow_56 : decode cX7_readsRow 56 = .ok (.aload_n 0, 1) := by decide +kernel
theorem dX7_readsRow_57 : decode cX7_readsRow 57 = .ok (.getfield 98, 3) := by decide +kernel
theorem dX7_readsRow_60 : decode cX7_readsRow 60 = .ok (.istore_n 3, 1) := by decide +kernel
theorem dX7_readsRow_61 : decode cX7_readsRow 61 = .ok (.iload_n 3, 1) := by decide +kernel
theorem dX7_readsRow_62 : decode cX7_readsRow 62 = .ok (.aload_n 0, 1) := by decide +kernel
theorem dX7_readsRow_63 : decode cX7_readsRow 63 = .ok (.getfield 95, 3) := by decide +kernel
theorem dX7_readsRow_66 : decode cX7_readsRow 66 = .ok (.if_icmp .ge 49, 3) := by decide +kernel
theorem dX7_readsRow_69 : decode cX7_readsRow 69 = .ok (.iload_n 2, 1) := by decide +kernel
theorem dX7_readsRow_70 : decode cX7_readsRow 70 = .ok (.ifCond .eq 45, 3) := by decide +kernel
theorem dX7_readsRow_73 : decode cX7_readsRow 73 = .ok (.aload_n 0, 1) := by decide +kernel
theorem dX7_readsRow_74 : decode cX7_readsRow 74 = .ok (.iload_n 3, 1) := by decide +kernel
theorem dX7_readsRow_75 : decode cX7_readsRow 75 = .ok (.invokevirtual 101, 3) := by decide +kernel
theorem dX7_readsRow_78 : decode cX7_readsRow 78 = .ok (.bipush 111, 2) := by decide +kernel
theorem dX7_readsRow_80 : decode cX7_readsRow 80 = .ok (.if_icmp .eq 23, 3) := by decide +kernel
theorem dX7_readsRow_83 : decode cX7_readsRow 83 = .ok (.aload_n 0, 1) := by decide +kernel
theorem dX7_readsRow_84 : decode cX7_readsRow 84 = .ok (.iload_n 3, 1) := by decide +kernel
theorem dX7_readsRow_85 : decode cX7_readsRow 85 = .ok (.invokevirtual 101, 3) := by decide +kernel
theorem dX7_readsRow_88 : decode cX7_readsRow 88 = .ok (.bipush 98, 2) := by decide +kernel
theorem dX7_readsRow_90 : decode cX7_readsRow 90 = .ok (.if_icmp .eq 13, 3) := by decide +kernel
theorem dX7_readsRow_93 : decode cX7_readsRow 93 = .ok (.aload_n 0, 1) := by decide +kernel
theorem dX7_readsRow_94 : decode cX7_readsRow 94 = .ok (.iload_n 3, 1) := by decide +kernel
theorem dX7_readsRow_95 : decode cX7_readsRow 95 = .ok (.invokevirtual 101, 3) := by decide +kernel
theorem dX7_readsRow_98 : decode cX7_readsRow 98 = .ok (.bipush 119, 2) := by decide +kernel
theorem dX7_readsRow_100 : decode cX7_readsRow 100 = .ok (.if_icmp .ne 7, 3) := by decide +kernel
theorem dX7_readsRow_103 : decode cX7_readsRow 103 = .ok (.iconst 1, 1) := by decide +kernel
theorem dX7_readsRow_104 : decode cX7_readsRow 104 = .ok (.goto 4, 3) := by decide +kernel
theorem dX7_readsRow_107 : decode cX7_readsRow 107 = .ok (.iconst 0, 1) := by decide +kernel
theorem dX7_readsRow_108 : decode cX7_readsRow 108 = .ok (.istore_n 2, 1) := by decide +kernel
theorem dX7_readsRow_109 : decode cX7_readsRow 109 = .ok (.iinc 3 1, 3) := by decide +kernel
theorem dX7_readsRow_112 : decode cX7_readsRow 112 = .ok (.goto (-51), 3) := by decide +kernel
theorem dX7_readsRow_115 : decode cX7_readsRow 115 = .ok (.aload_n 0, 1) := by decide +kernel
theorem dX7_readsRow_116 : decode cX7_readsRow 116 = .ok (.getfield 118, 3) := by decide +kernel
theorem dX7_readsRow_119 : decode cX7_readsRow 119 = .ok (.ifCond .ne 13, 3) := by decide +kernel
theorem dX7_readsRow_122 : decode cX7_readsRow 122 = .ok (.iload_n 2, 1) := by decide +kernel
theorem dX7_readsRow_123 : decode cX7_readsRow 123 = .ok (.ifCond .ne 9, 3) := by decide +kernel
theorem dX7_readsRow_126 : decode cX7_readsRow 126 = .ok (.aload_n 0, 1) := by decide +kernel
theorem dX7_readsRow_127 : decode cX7_readsRow 127 = .ok (.bipush (-3), 2) := by decide +kernel
theorem dX7_readsRow_129 : decode cX7_readsRow 129 = .ok (.invokevirtual 133, 3) := by decide +kernel
theorem dX7_readsRow_132 : decode cX7_readsRow 132 = .ok (.aload_n 0, 1) := by decide +kernel
theorem dX7_readsRow_133 : decode cX7_readsRow 133 = .ok (.getfield 118, 3) := by decide +kernel
theorem dX7_readsRow_136 : decode cX7_readsRow 136 = .ok (.ifCond .eq 4, 3) := by decide +kernel
theorem dX7_readsRow_139 : decode cX7_readsRow 139 = .ok (.return_, 1) := by decide +kernel
theorem dX7_readsRow_140 : decode cX7_readsRow 140 = .ok (.aload_n 0, 1) := by decide +kernel
theorem dX7_readsRow_141 : decode cX7_readsRow 141 = .ok (.getfield 98, 3) := by decide +kernel
theorem dX7_readsRow_144 : decode cX7_readsRow 144 = .ok (.istore_n 3, 1) := by decide +kernel
theorem dX7_readsRow_145 : decode cX7_readsRow 145 = .ok (.iload_n 3, 1) := by decide +kernel
theorem dX7_readsRow_146 : decode cX7_readsRow 146 = .ok (.aload_n 0, 1) := by decide +kernel
theorem dX7_readsRow_147 : decode cX7_readsRow 147 = .ok (.getfield 95, 3) := by decide +kernel
theorem dX7_readsRow_150 : decode cX7_readsRow 150 = .ok (.if_icmp .ge 81, 3) := by decide +kernel
theorem dX7_readsRow_153 : decode cX7_readsRow 153 = .ok (.lconst 1, 1) := by decide +kernel
theorem dX7_readsRow_154 : decode cX7_readsRow 154 = .ok (.aload_n 0, 1) := by decide +kernel
theorem dX7_readsRow_155 : decode cX7_readsRow 155 = .ok (.getfield 13, 3) := by decide +kernel
theorem dX7_readsRow_158 : decode cX7_readsRow 158 = .ok (.iconst 1, 1) := by decide +kernel
theorem dX7_readsRow_159 : decode cX7_readsRow 159 = .ok (.laload, 1) := by decide +kernel
theorem dX7_readsRow_160 : decode cX7_readsRow 160 = .ok (.l2i, 1) := by decide +kernel
theorem dX7_readsRow_161 : decode cX7_readsRow 161 = .ok (.iload_n 1, 1) := by decide +kernel
theorem dX7_readsRow_162 : decode cX7_readsRow 162 = .ok (.imul, 1) := by decide +kernel
theorem dX7_readsRow_163 : decode cX7_readsRow 163 = .ok (.iload_n 3, 1) := by decide +kernel
theorem dX7_readsRow_164 : decode cX7_readsRow 164 = .ok (.iadd, 1) := by decide +kernel
theorem dX7_readsRow_165 : decode cX7_readsRow 165 = .ok (.aload_n 0, 1) := by decide +kernel
theorem dX7_readsRow_166 : decode cX7_readsRow 166 = .ok (.getfield 98, 3) := by decide +kernel
theorem dX7_readsRow_169 : decode cX7_readsRow 169 = .ok (.isub, 1) := by decide +kernel
theorem dX7_readsRow_170 : decode cX7_readsRow 170 = .ok (.lshl, 1) := by decide +kernel
theorem dX7_readsRow_171 : decode cX7_readsRow 171 = .ok (.lstore 4, 2) := by decide +kernel
theorem dX7_readsRow_173 : decode cX7_readsRow 173 = .ok (.aload_n 0, 1) := by decide +kernel
theorem dX7_readsRow_174 : decode cX7_readsRow 174 = .ok (.getfield 13, 3) := by decide +kernel
theorem dX7_readsRow_177 : decode cX7_readsRow 177 = .ok (.bipush 11, 2) := by decide +kernel
theorem dX7_readsRow_179 : decode cX7_readsRow 179 = .ok (.dup2, 1) := by decide +kernel
theorem dX7_readsRow_180 : decode cX7_readsRow 180 = .ok (.laload, 1) := by decide +kernel
theorem dX7_readsRow_181 : decode cX7_readsRow 181 = .ok (.aload_n 0, 1) := by decide +kernel
theorem dX7_readsRow_182 : decode cX7_readsRow 182 = .ok (.iload_n 3, 1) := by decide +kernel
theorem dX7_readsRow_183 : decode cX7_readsRow 183 = .ok (.invokevirtual 101, 3) := by decide +kernel
theorem dX7_readsRow_186 : decode cX7_readsRow 186 = .ok (.bipush 98, 2) := by decide +kernel
theorem dX7_readsRow_188 : decode cX7_readsRow 188 = .ok (.if_icmp .ne 8, 3) := by decide +kernel
theorem dX7_readsRow_191 : decode cX7_readsRow 191 = .ok (.lload 4, 2) := by decide +kernel
theorem dX7_readsRow_193 : decode cX7_readsRow 193 = .ok (.goto 4, 3) := by decide +kernel
theorem dX7_readsRow_196 : decode cX7_readsRow 196 = .ok (.lconst 0, 1) := by decide +kernel
theorem dX7_readsRow_197 : decode cX7_readsRow 197 = .ok (.lor, 1) := by decide +kernel
theorem dX7_readsRow_198 : decode cX7_readsRow 198 = .ok (.lastore, 1) := by decide +kernel
theorem dX7_readsRow_199 : decode cX7_readsRow 199 = .ok (.aload_n 0, 1) := by decide +kernel
theorem dX7_readsRow_200 : decode cX7_readsRow 200 = .ok (.getfield 13, 3) := by decide +kernel
theorem dX7_readsRow_203 : decode cX7_readsRow 203 = .ok (.bipush 12, 2) := by decide +kernel
theorem dX7_readsRow_205 : decode cX7_readsRow 205 = .ok (.dup2, 1) := by decide +kernel
theorem dX7_readsRow_206 : decode cX7_readsRow 206 = .ok (.laload, 1) := by decide +kernel
theorem dX7_readsRow_207 : decode cX7_readsRow 207 = .ok (.aload_n 0, 1) := by decide +kernel
theorem dX7_readsRow_208 : decode cX7_readsRow 208 = .ok (.iload_n 3, 1) := by decide +kernel
theorem dX7_readsRow_209 : decode cX7_readsRow 209 = .ok (.invokevirtual 101, 3) := by decide +kernel
theorem dX7_readsRow_212 : decode cX7_readsRow 212 = .ok (.bipush 119, 2) := by decide +kernel
theorem dX7_readsRow_214 : decode cX7_readsRow 214 = .ok (.if_icmp .ne 8, 3) := by decide +kernel
theorem dX7_readsRow_217 : decode cX7_readsRow 217 = .ok (.lload 4, 2) := by decide +kernel
theorem dX7_readsRow_219 : decode cX7_readsRow 219 = .ok (.goto 4, 3) := by decide +kernel
theorem dX7_readsRow_222 : decode cX7_readsRow 222 = .ok (.lconst 0, 1) := by decide +kernel
theorem dX7_readsRow_223 : decode cX7_readsRow 223 = .ok (.lor, 1) := by decide +kernel
theorem dX7_readsRow_224 : decode cX7_readsRow 224 = .ok (.lastore, 1) := by decide +kernel
theorem dX7_readsRow_225 : decode cX7_readsRow 225 = .ok (.iinc 3 1, 3) := by decide +kernel
theorem dX7_readsRow_228 : decode cX7_readsRow 228 = .ok (.goto (-83), 3) := by decide +kernel
theorem dX7_readsRow_231 : decode cX7_readsRow 231 = .ok (.aload_n 0, 1) := by decide +kernel
theorem dX7_readsRow_232 : decode cX7_readsRow 232 = .ok (.invokevirtual 137, 3) := by decide +kernel
theorem dX7_readsRow_235 : decode cX7_readsRow 235 = .ok (.aload_n 0, 1) := by decide +kernel
theorem dX7_readsRow_236 : decode cX7_readsRow 236 = .ok (.invokevirtual 162, 3) := by decide +kernel
theorem dX7_readsRow_239 : decode cX7_readsRow 239 = .ok (.return_, 1) := by decide +kernel
theorem dX7_load_0 : decode cX7_load 0 = .ok (.aload_n 0, 1) := by decide +kernel
theorem dX7_load_1 : decode cX7_load 1 = .ok (.iload_n 1, 1) := by decide +kernel
theorem dX7_load_2 : decode cX7_load 2 = .ok (.i2l, 1) := by decide +kernel
theorem dX7_load_3 : decode cX7_load 3 = .ok (.lconst 0, 1) := by decide +kernel
theorem dX7_load_4 : decode cX7_load 4 = .ok (.aload_n 0, 1) := by decide +kernel
theorem dX7_load_5 : decode cX7_load 5 = .ok (.getfield 81, 3) := by decide +kernel
theorem dX7_load_8 : decode cX7_load 8 = .ok (.i2l, 1) := by decide +kernel
theorem dX7_load_9 : decode cX7_load 9 = .ok (.invokestatic 61, 3) := by decide +kernel
theorem dX7_load_12 : decode cX7_load 12 = .ok (.ifCond .eq 7, 3) := by decide +kernel
theorem dX7_load_15 : decode cX7_load 15 = .ok (.iconst 0, 1) := by decide +kernel
theorem dX7_load_16 : decode cX7_load 16 = .ok (.goto 4, 3) := by decide +kernel
theorem dX7_load_19 : decode cX7_load 19 = .ok (.iconst 1, 1) := by decide +kernel
theorem dX7_load_20 : decode cX7_load 20 = .ok (.putfield 51, 3) := by decide +kernel
theorem dX7_load_23 : decode cX7_load 23 = .ok (.aload_n 0, 1) := by decide +kernel
theorem dX7_load_24 : decode cX7_load 24 = .ok (.getfield 51, 3) := by decide +kernel
theorem dX7_load_27 : decode cX7_load 27 = .ok (.ifCond .le 5, 3) := by decide +kernel
theorem dX7_load_30 : decode cX7_load 30 = .ok (.iconst 0, 1) := by decide +kernel
theorem dX7_load_31 : decode cX7_load 31 = .ok (.ireturn, 1) := by decide +kernel
theorem dX7_load_32 : decode cX7_load 32 = .ok (.aload_n 0, 1) := by decide +kernel
theorem dX7_load_33 : decode cX7_load 33 = .ok (.iload_n 1, 1) := by decide +kernel
theorem dX7_load_34 : decode cX7_load 34 = .ok (.putfield 84, 3) := by decide +kernel
theorem dX7_load_37 : decode cX7_load 37 = .ok (.aload_n 0, 1) := by decide +kernel
theorem dX7_load_38 : decode cX7_load 38 = .ok (.iconst 0, 1) := by decide +kernel
theorem dX7_load_39 : decode cX7_load 39 = .ok (.putfield 81, 3) := by decide +kernel
theorem dX7_load_42 : decode cX7_load 42 = .ok (.aload_n 0, 1) := by decide +kernel
theorem dX7_load_43 : decode cX7_load 43 = .ok (.iconst 0, 1) := by decide +kernel
theorem dX7_load_44 : decode cX7_load 44 = .ok (.putfield 95, 3) := by decide +kernel
theorem dX7_load_47 : decode cX7_load 47 = .ok (.aload_n 0, 1) := by decide +kernel
theorem dX7_load_48 : decode cX7_load 48 = .ok (.iconst 0, 1) := by decide +kernel
theorem dX7_load_49 : decode cX7_load 49 = .ok (.putfield 118, 3) := by decide +kernel
theorem dX7_load_52 : decode cX7_load 52 = .ok (.aload_n 0, 1) := by decide +kernel
theorem dX7_load_53 : decode cX7_load 53 = .ok (.invokevirtual 37, 3) := by decide +kernel
theorem dX7_load_56 : decode cX7_load 56 = .ok (.aload_n 0, 1) := by decide +kernel
theorem dX7_load_57 : decode cX7_load 57 = .ok (.invokevirtual 137, 3) := by decide +kernel
theorem dX7_load_60 : decode cX7_load 60 = .ok (.aload_n 0, 1) := by decide +kernel
theorem dX7_load_61 : decode cX7_load 61 = .ok (.aload_n 0, 1) := by decide +kernel
theorem dX7_load_62 : decode cX7_load 62 = .ok (.ldc 167, 2) := by decide +kernel
theorem dX7_load_64 : decode cX7_load 64 = .ok (.invokevirtual 146, 3) := by decide +kernel
theorem dX7_load_67 : decode cX7_load 67 = .ok (.invokevirtual 140, 3) := by decide +kernel
theorem dX7_load_70 : decode cX7_load 70 = .ok (.aload_n 0, 1) := by decide +kernel
theorem dX7_load_71 : decode cX7_load 71 = .ok (.getfield 13, 3) := by decide +kernel
theorem dX7_load_74 : decode cX7_load 74 = .ok (.iconst 0, 1) := by decide +kernel
theorem dX7_load_75 : decode cX7_load 75 = .ok (.aload_n 0, 1) := by decide +kernel
theorem dX7_load_76 : decode cX7_load 76 = .ok (.iconst 1, 1) := by decide +kernel
theorem dX7_load_77 : decode cX7_load 77 = .ok (.iconst 5, 1) := by decide +kernel
theorem dX7_load_78 : decode cX7_load 78 = .ok (.invokevirtual 150, 3) := by decide +kernel
theorem dX7_load_81 : decode cX7_load 81 = .ok (.i2l, 1) := by decide +kernel
theorem dX7_load_82 : decode cX7_load 82 = .ok (.lastore, 1) := by decide +kernel
theorem dX7_load_83 : decode cX7_load 83 = .ok (.aload_n 0, 1) := by decide +kernel
theorem dX7_load_84 : decode cX7_load 84 = .ok (.getfield 13, 3) := by decide +kernel
theorem dX7_load_87 : decode cX7_load 87 = .ok (.iconst 1, 1) := by decide +kernel
theorem dX7_load_88 : decode cX7_load 88 = .ok (.aload_n 0, 1) := by decide +kernel
theorem dX7_load_89 : decode cX7_load 89 = .ok (.iconst 3, 1) := by decide +kernel
theorem dX7_load_90 : decode cX7_load 90 = .ok (.bipush 12, 2) := by decide +kernel
theorem dX7_load_92 : decode cX7_load 92 = .ok (.invokevirtual 150, 3) := by decide +kernel
theorem dX7_load_95 : decode cX7_load 95 = .ok (.i2l, 1) := by decide +kernel
theorem dX7_load_96 : decode cX7_load 96 = .ok (.lastore, 1) := by decide +kernel
theorem dX7_load_97 : decode cX7_load 97 = .ok (.aload_n 0, 1) := by decide +kernel
theorem dX7_load_98 : decode cX7_load 98 = .ok (.invokevirtual 162, 3) := by decide +kernel
theorem dX7_load_101 : decode cX7_load 101 = .ok (.aload_n 0, 1) := by decide +kernel
theorem dX7_load_102 : decode cX7_load 102 = .ok (.getfield 118, 3) := by decide +kernel
theorem dX7_load_105 : decode cX7_load 105 = .ok (.ifCond .ne 7, 3) := by decide +kernel
theorem dX7_load_108 : decode cX7_load 108 = .ok (.iconst 1, 1) := by decide +kernel
theorem dX7_load_109 : decode cX7_load 109 = .ok (.goto 4, 3) := by decide +kernel
theorem dX7_load_112 : decode cX7_load 112 = .ok (.iconst 0, 1) := by decide +kernel
theorem dX7_load_113 : decode cX7_load 113 = .ok (.istore_n 2, 1) := by decide +kernel
theorem dX7_load_114 : decode cX7_load 114 = .ok (.iload_n 2, 1) := by decide +kernel
theorem dX7_load_115 : decode cX7_load 115 = .ok (.ifCond .eq 11, 3) := by decide +kernel
theorem dX7_load_118 : decode cX7_load 118 = .ok (.aload_n 0, 1) := by decide +kernel
theorem dX7_load_119 : decode cX7_load 119 = .ok (.invokevirtual 169, 3) := by decide +kernel
theorem dX7_load_122 : decode cX7_load 122 = .ok (.istore_n 2, 1) := by decide +kernel
theorem dX7_load_123 : decode cX7_load 123 = .ok (.goto (-9), 3) := by decide +kernel
theorem dX7_load_126 : decode cX7_load 126 = .ok (.iconst 0, 1) := by decide +kernel
theorem dX7_load_127 : decode cX7_load 127 = .ok (.istore_n 3, 1) := by decide +kernel
theorem dX7_load_128 : decode cX7_load 128 = .ok (.iload_n 3, 1) := by decide +kernel
theorem dX7_load_129 : decode cX7_load 129 = .ok (.i2l, 1) := by decide +kernel
theorem dX7_load_130 : decode cX7_load 130 = .ok (.aload_n 0, 1) := by decide +kernel
theorem dX7_load_131 : decode cX7_load 131 = .ok (.getfield 13, 3) := by decide +kernel
theorem dX7_load_134 : decode cX7_load 134 = .ok (.iconst 0, 1) := by decide +kernel
theorem dX7_load_135 : decode cX7_load 135 = .ok (.laload, 1) := by decide +kernel
theorem dX7_load_136 : decode cX7_load 136 = .ok (.lcmp, 1) := by decide +kernel
theorem dX7_load_137 : decode cX7_load 137 = .ok (.ifCond .ge 21, 3) := by decide +kernel
theorem dX7_load_140 : decode cX7_load 140 = .ok (.aload_n 0, 1) := by decide +kernel
theorem dX7_load_141 : decode cX7_load 141 = .ok (.getfield 118, 3) := by decide +kernel
theorem dX7_load_144 : decode cX7_load 144 = .ok (.ifCond .ne 14, 3) := by decide +kernel
theorem dX7_load_147 : decode cX7_load 147 = .ok (.aload_n 0, 1) := by decide +kernel
theorem dX7_load_148 : decode cX7_load 148 = .ok (.iload_n 3, 1) := by decide +kernel
theorem dX7_load_149 : decode cX7_load 149 = .ok (.invokevirtual 173, 3) := by decide +kernel
theorem dX7_load_152 : decode cX7_load 152 = .ok (.iinc 3 1, 3) := by decide +kernel
theorem dX7_load_155 : decode cX7_load 155 = .ok (.goto (-27), 3) := by decide +kernel
theorem dX7_load_158 : decode cX7_load 158 = .ok (.aload_n 0, 1) := by decide +kernel
theorem dX7_load_159 : decode cX7_load 159 = .ok (.getfield 118, 3) := by decide +kernel
theorem dX7_load_162 : decode cX7_load 162 = .ok (.ifCond .ne 17, 3) := by decide +kernel
theorem dX7_load_165 : decode cX7_load 165 = .ok (.aload_n 0, 1) := by decide +kernel
theorem dX7_load_166 : decode cX7_load 166 = .ok (.getfield 105, 3) := by decide +kernel
theorem dX7_load_169 : decode cX7_load 169 = .ok (.iconst 3, 1) := by decide +kernel
theorem dX7_load_170 : decode cX7_load 170 = .ok (.if_icmp .eq 9, 3) := by decide +kernel
theorem dX7_load_173 : decode cX7_load 173 = .ok (.aload_n 0, 1) := by decide +kernel
theorem dX7_load_174 : decode cX7_load 174 = .ok (.bipush (-2), 2) := by decide +kernel
theorem dX7_load_176 : decode cX7_load 176 = .ok (.invokevirtual 133, 3) := by decide +kernel
theorem dX7_load_179 : decode cX7_load 179 = .ok (.aload_n 0, 1) := by decide +kernel
theorem dX7_load_180 : decode cX7_load 180 = .ok (.getfield 118, 3) := by decide +kernel
theorem dX7_load_183 : decode cX7_load 183 = .ok (.ifCond .ne 27, 3) := by decide +kernel
theorem dX7_load_186 : decode cX7_load 186 = .ok (.aload_n 0, 1) := by decide +kernel
theorem dX7_load_187 : decode cX7_load 187 = .ok (.getfield 13, 3) := by decide +kernel
theorem dX7_load_190 : decode cX7_load 190 = .ok (.invokestatic 176, 3) := by decide +kernel
theorem dX7_load_193 : decode cX7_load 193 = .ok (.ifCond .ne 17, 3) := by decide +kernel
theorem dX7_load_196 : decode cX7_load 196 = .ok (.aload_n 0, 1) := by decide +kernel
theorem dX7_load_197 : decode cX7_load 197 = .ok (.bipush (-3), 2) := by decide +kernel
theorem dX7_load_199 : decode cX7_load 199 = .ok (.putfield 118, 3) := by decide +kernel
theorem dX7_load_202 : decode cX7_load 202 = .ok (.aload_n 0, 1) := by decide +kernel
theorem dX7_load_203 : decode cX7_load 203 = .ok (.aload_n 0, 1) := by decide +kernel
theorem dX7_load_204 : decode cX7_load 204 = .ok (.getfield 84, 3) := by decide +kernel
theorem dX7_load_207 : decode cX7_load 207 = .ok (.putfield 130, 3) := by decide +kernel
theorem dX7_load_210 : decode cX7_load 210 = .ok (.aload_n 0, 1) := by decide +kernel
theorem dX7_load_211 : decode cX7_load 211 = .ok (.aload_n 0, 1) := by decide +kernel
theorem dX7_load_212 : decode cX7_load 212 = .ok (.getfield 118, 3) := by decide +kernel
theorem dX7_load_215 : decode cX7_load 215 = .ok (.ifCond .ne 7, 3) := by decide +kernel
theorem dX7_load_218 : decode cX7_load 218 = .ok (.iconst (-1), 1) := by decide +kernel
theorem dX7_load_219 : decode cX7_load 219 = .ok (.goto 7, 3) := by decide +kernel
theorem dX7_load_222 : decode cX7_load 222 = .ok (.aload_n 0, 1) := by decide +kernel
theorem dX7_load_223 : decode cX7_load 223 = .ok (.getfield 130, 3) := by decide +kernel
theorem dX7_load_226 : decode cX7_load 226 = .ok (.putfield 30, 3) := by decide +kernel
theorem dX7_load_229 : decode cX7_load 229 = .ok (.aload_n 0, 1) := by decide +kernel
theorem dX7_load_230 : decode cX7_load 230 = .ok (.getfield 118, 3) := by decide +kernel
theorem dX7_load_233 : decode cX7_load 233 = .ok (.ifCond .eq 8, 3) := by decide +kernel
theorem dX7_load_236 : decode cX7_load 236 = .ok (.aload_n 0, 1) := by decide +kernel
theorem dX7_load_237 : decode cX7_load 237 = .ok (.getfield 118, 3) := by decide +kernel
theorem dX7_load_240 : decode cX7_load 240 = .ok (.ireturn, 1) := by decide +kernel
theorem dX7_load_241 : decode cX7_load 241 = .ok (.aload_n 0, 1) := by decide +kernel
theorem dX7_load_242 : decode cX7_load 242 = .ok (.invokevirtual 69, 3) := by decide +kernel
theorem dX7_load_245 : decode cX7_load 245 = .ok (.aload_n 0, 1) := by decide +kernel
theorem dX7_load_246 : decode cX7_load 246 = .ok (.aload_n 0, 1) := by decide +kernel
theorem dX7_load_247 : decode cX7_load 247 = .ok (.getfield 13, 3) := by decide +kernel
theorem dX7_load_250 : decode cX7_load 250 = .ok (.iconst 0, 1) := by decide +kernel
theorem dX7_load_251 : decode cX7_load 251 = .ok (.invokevirtual 40, 3) := by decide +kernel
theorem dX7_load_254 : decode cX7_load 254 = .ok (.aload_n 0, 1) := by decide +kernel
theorem dX7_load_255 : decode cX7_load 255 = .ok (.invokevirtual 44, 3) := by decide +kernel
theorem dX7_load_258 : decode cX7_load 258 = .ok (.aload_n 0, 1) := by decide +kernel
theorem dX7_load_259 : decode cX7_load 259 = .ok (.invokevirtual 65, 3) := by decide +kernel
theorem dX7_load_262 : decode cX7_load 262 = .ok (.ireturn, 1) := by decide +kernel
theorem dX7_errorPosition_0 : decode cX7_errorPosition 0 = .ok (.aload_n 0, 1) := by decide +kernel
theorem dX7_errorPosition_1 : decode cX7_errorPosition 1 = .ok (.iconst 0, 1) := by decide +kernel
theorem dX7_errorPosition_2 : decode cX7_errorPosition 2 = .ok (.putfield 51, 3) := by decide +kernel
theorem dX7_errorPosition_5 : decode cX7_errorPosition 5 = .ok (.aload_n 0, 1) := by decide +kernel
theorem dX7_errorPosition_6 : decode cX7_errorPosition 6 = .ok (.getfield 30, 3) := by decide +kernel
theorem dX7_errorPosition_9 : decode cX7_errorPosition 9 = .ok (.ireturn, 1) := by decide +kernel
theorem dX7_places_0 : decode cX7_places 0 = .ok (.aload_n 0, 1) := by decide +kernel
theorem dX7_places_1 : decode cX7_places 1 = .ok (.getfield 7, 3) := by decide +kernel
theorem dX7_places_4 : decode cX7_places 4 = .ok (.iconst 0, 1) := by decide +kernel
theorem dX7_places_5 : decode cX7_places 5 = .ok (.laload, 1) := by decide +kernel
theorem dX7_places_6 : decode cX7_places 6 = .ok (.aload_n 0, 1) := by decide +kernel
theorem dX7_places_7 : decode cX7_places 7 = .ok (.getfield 7, 3) := by decide +kernel
theorem dX7_places_10 : decode cX7_places 10 = .ok (.iconst 1, 1) := by decide +kernel
theorem dX7_places_11 : decode cX7_places 11 = .ok (.laload, 1) := by decide +kernel
theorem dX7_places_12 : decode cX7_places 12 = .ok (.lmul, 1) := by decide +kernel
theorem dX7_places_13 : decode cX7_places 13 = .ok (.l2i, 1) := by decide +kernel
theorem dX7_places_14 : decode cX7_places 14 = .ok (.ireturn, 1) := by decide +kernel
theorem dX7_isPlace_0 : decode cX7_isPlace 0 = .ok (.iload_n 1, 1) := by decide +kernel
theorem dX7_isPlace_1 : decode cX7_isPlace 1 = .ok (.i2l, 1) := by decide +kernel
theorem dX7_isPlace_2 : decode cX7_isPlace 2 = .ok (.lconst 0, 1) := by decide +kernel
theorem dX7_isPlace_3 : decode cX7_isPlace 3 = .ok (.aload_n 0, 1) := by decide +kernel
theorem dX7_isPlace_4 : decode cX7_isPlace 4 = .ok (.invokevirtual 180, 3) := by decide +kernel
theorem dX7_isPlace_7 : decode cX7_isPlace 7 = .ok (.iconst 1, 1) := by decide +kernel
theorem dX7_isPlace_8 : decode cX7_isPlace 8 = .ok (.isub, 1) := by decide +kernel
theorem dX7_isPlace_9 : decode cX7_isPlace 9 = .ok (.i2l, 1) := by decide +kernel
theorem dX7_isPlace_10 : decode cX7_isPlace 10 = .ok (.invokestatic 61, 3) := by decide +kernel
theorem dX7_isPlace_13 : decode cX7_isPlace 13 = .ok (.ireturn, 1) := by decide +kernel
theorem dX7_isColour_0 : decode cX7_isColour 0 = .ok (.iload_n 0, 1) := by decide +kernel
theorem dX7_isColour_1 : decode cX7_isColour 1 = .ok (.i2l, 1) := by decide +kernel
theorem dX7_isColour_2 : decode cX7_isColour 2 = .ok (.lconst 1, 1) := by decide +kernel
theorem dX7_isColour_3 : decode cX7_isColour 3 = .ok (.ldc2_w 79, 3) := by decide +kernel
theorem dX7_isColour_6 : decode cX7_isColour 6 = .ok (.invokestatic 61, 3) := by decide +kernel
theorem dX7_isColour_9 : decode cX7_isColour 9 = .ok (.ireturn, 1) := by decide +kernel
theorem dX7_beside_0 : decode cX7_beside 0 = .ok (.aload_n 0, 1) := by decide +kernel
theorem dX7_beside_1 : decode cX7_beside 1 = .ok (.iconst 1, 1) := by decide +kernel
theorem dX7_beside_2 : decode cX7_beside 2 = .ok (.laload, 1) := by decide +kernel
theorem dX7_beside_3 : decode cX7_beside 3 = .ok (.l2i, 1) := by decide +kernel
theorem dX7_beside_4 : decode cX7_beside 4 = .ok (.istore_n 3, 1) := by decide +kernel
theorem dX7_beside_5 : decode cX7_beside 5 = .ok (.iload_n 1, 1) := by decide +kernel
theorem dX7_beside_6 : decode cX7_beside 6 = .ok (.iload_n 3, 1) := by decide +kernel
theorem dX7_beside_7 : decode cX7_beside 7 = .ok (.idiv, 1) := by decide +kernel
theorem dX7_beside_8 : decode cX7_beside 8 = .ok (.istore 4, 2) := by decide +kernel
theorem dX7_beside_10 : decode cX7_beside 10 = .ok (.iload_n 1, 1) := by decide +kernel
theorem dX7_beside_11 : decode cX7_beside 11 = .ok (.iload_n 3, 1) := by decide +kernel
theorem dX7_beside_12 : decode cX7_beside 12 = .ok (.irem, 1) := by decide +kernel
theorem dX7_beside_13 : decode cX7_beside 13 = .ok (.istore 5, 2) := by decide +kernel
theorem dX7_beside_15 : decode cX7_beside 15 = .ok (.iload_n 2, 1) := by decide +kernel
theorem dX7_beside_16 : decode cX7_beside 16 = .ok (.ifCond .ne 15, 3) := by decide +kernel
theorem dX7_beside_19 : decode cX7_beside 19 = .ok (.iload_n 3, 1) := by decide +kernel
theorem dX7_beside_20 : decode cX7_beside 20 = .ok (.iload 4, 2) := by decide +kernel
theorem dX7_beside_22 : decode cX7_beside 22 = .ok (.imul, 1) := by decide +kernel
theorem dX7_beside_23 : decode cX7_beside 23 = .ok (.iload 5, 2) := by decide +kernel
theorem dX7_beside_25 : decode cX7_beside 25 = .ok (.iconst 1, 1) := by decide +kernel
theorem dX7_beside_26 : decode cX7_beside 26 = .ok (.iadd, 1) := by decide +kernel
theorem dX7_beside_27 : decode cX7_beside 27 = .ok (.iload_n 3, 1) := by decide +kernel
theorem dX7_beside_28 : decode cX7_beside 28 = .ok (.irem, 1) := by decide +kernel
theorem dX7_beside_29 : decode cX7_beside 29 = .ok (.iadd, 1) := by decide +kernel
theorem dX7_beside_30 : decode cX7_beside 30 = .ok (.ireturn, 1) := by decide +kernel
theorem dX7_beside_31 : decode cX7_beside 31 = .ok (.iload_n 2, 1) := by decide +kernel
theorem dX7_beside_32 : decode cX7_beside 32 = .ok (.iconst 1, 1) := by decide +kernel
theorem dX7_beside_33 : decode cX7_beside 33 = .ok (.if_icmp .ne 17, 3) := by decide +kernel
theorem dX7_beside_36 : decode cX7_beside 36 = .ok (.iload_n 3, 1) := by decide +kernel
theorem dX7_beside_37 : decode cX7_beside 37 = .ok (.iload 4, 2) := by decide +kernel
theorem dX7_beside_39 : decode cX7_beside 39 = .ok (.imul, 1) := by decide +kernel
theorem dX7_beside_40 : decode cX7_beside 40 = .ok (.iload 5, 2) := by decide +kernel
theorem dX7_beside_42 : decode cX7_beside 42 = .ok (.iload_n 3, 1) := by decide +kernel
theorem dX7_beside_43 : decode cX7_beside 43 = .ok (.iadd, 1) := by decide +kernel
theorem dX7_beside_44 : decode cX7_beside 44 = .ok (.iconst 1, 1) := by decide +kernel
theorem dX7_beside_45 : decode cX7_beside 45 = .ok (.isub, 1) := by decide +kernel
theorem dX7_beside_46 : decode cX7_beside 46 = .ok (.iload_n 3, 1) := by decide +kernel
theorem dX7_beside_47 : decode cX7_beside 47 = .ok (.irem, 1) := by decide +kernel
theorem dX7_beside_48 : decode cX7_beside 48 = .ok (.iadd, 1) := by decide +kernel
theorem dX7_beside_49 : decode cX7_beside 49 = .ok (.ireturn, 1) := by decide +kernel
theorem dX7_beside_50 : decode cX7_beside 50 = .ok (.iload_n 2, 1) := by decide +kernel
theorem dX7_beside_51 : decode cX7_beside 51 = .ok (.iconst 2, 1) := by decide +kernel
theorem dX7_beside_52 : decode cX7_beside 52 = .ok (.if_icmp .ne 23, 3) := by decide +kernel
theorem dX7_beside_55 : decode cX7_beside 55 = .ok (.iload 4, 2) := by decide +kernel
theorem dX7_beside_57 : decode cX7_beside 57 = .ok (.iconst 1, 1) := by decide +kernel
theorem dX7_beside_58 : decode cX7_beside 58 = .ok (.iadd, 1) := by decide +kernel
theorem dX7_beside_59 : decode cX7_beside 59 = .ok (.i2l, 1) := by decide +kernel
theorem dX7_beside_60 : decode cX7_beside 60 = .ok (.aload_n 0, 1) := by decide +kernel
theorem dX7_beside_61 : decode cX7_beside 61 = .ok (.iconst 0, 1) := by decide +kernel
theorem dX7_beside_62 : decode cX7_beside 62 = .ok (.laload, 1) := by decide +kernel
theorem dX7_beside_63 : decode cX7_beside 63 = .ok (.lcmp, 1) := by decide +kernel
theorem dX7_beside_64 : decode cX7_beside 64 = .ok (.ifCond .ge 9, 3) := by decide +kernel
theorem dX7_beside_67 : decode cX7_beside 67 = .ok (.iload_n 1, 1) := by decide +kernel
theorem dX7_beside_68 : decode cX7_beside 68 = .ok (.iload_n 3, 1) := by decide +kernel
theorem dX7_beside_69 : decode cX7_beside 69 = .ok (.iadd, 1) := by decide +kernel
theorem dX7_beside_70 : decode cX7_beside 70 = .ok (.goto 4, 3) := by decide +kernel
theorem dX7_beside_73 : decode cX7_beside 73 = .ok (.iconst (-1), 1) := by decide +kernel
theorem dX7_beside_74 : decode cX7_beside 74 = .ok (.ireturn, 1) := by decide +kernel
theorem dX7_beside_75 : decode cX7_beside 75 = .ok (.iload_n 1, 1) := by decide +kernel
theorem dX7_beside_76 : decode cX7_beside 76 = .ok (.iload_n 3, 1) := by decide +kernel
theorem dX7_beside_77 : decode cX7_beside 77 = .ok (.isub, 1) := by decide +kernel
theorem dX7_beside_78 : decode cX7_beside 78 = .ok (.ifCond .ge 7, 3) := by decide +kernel
theorem dX7_beside_81 : decode cX7_beside 81 = .ok (.iconst (-1), 1) := by decide +kernel
theorem dX7_beside_82 : decode cX7_beside 82 = .ok (.goto 6, 3) := by decide +kernel
theorem dX7_beside_85 : decode cX7_beside 85 = .ok (.iload_n 1, 1) := by decide +kernel
theorem dX7_beside_86 : decode cX7_beside 86 = .ok (.iload_n 3, 1) := by decide +kernel
theorem dX7_beside_87 : decode cX7_beside 87 = .ok (.isub, 1) := by decide +kernel
theorem dX7_beside_88 : decode cX7_beside 88 = .ok (.ireturn, 1) := by decide +kernel
theorem dX7_has_0 : decode cX7_has 0 = .ok (.lload_n 0, 1) := by decide +kernel
theorem dX7_has_1 : decode cX7_has 1 = .ok (.iload_n 2, 1) := by decide +kernel
theorem dX7_has_2 : decode cX7_has 2 = .ok (.lushr, 1) := by decide +kernel
theorem dX7_has_3 : decode cX7_has 3 = .ok (.lconst 1, 1) := by decide +kernel
theorem dX7_has_4 : decode cX7_has 4 = .ok (.land, 1) := by decide +kernel
theorem dX7_has_5 : decode cX7_has 5 = .ok (.lconst 1, 1) := by decide +kernel
theorem dX7_has_6 : decode cX7_has 6 = .ok (.lcmp, 1) := by decide +kernel
theorem dX7_has_7 : decode cX7_has 7 = .ok (.ifCond .ne 7, 3) := by decide +kernel
theorem dX7_has_10 : decode cX7_has 10 = .ok (.iconst 1, 1) := by decide +kernel
theorem dX7_has_11 : decode cX7_has 11 = .ok (.goto 4, 3) := by decide +kernel
theorem dX7_has_14 : decode cX7_has 14 = .ok (.iconst 0, 1) := by decide +kernel
theorem dX7_has_15 : decode cX7_has 15 = .ok (.ireturn, 1) := by decide +kernel
theorem dX7_bits_0 : decode cX7_bits 0 = .ok (.iconst 0, 1) := by decide +kernel
theorem dX7_bits_1 : decode cX7_bits 1 = .ok (.istore_n 2, 1) := by decide +kernel
theorem dX7_bits_2 : decode cX7_bits 2 = .ok (.iconst 0, 1) := by decide +kernel
theorem dX7_bits_3 : decode cX7_bits 3 = .ok (.istore_n 3, 1) := by decide +kernel
theorem dX7_bits_4 : decode cX7_bits 4 = .ok (.iload_n 3, 1) := by decide +kernel
theorem dX7_bits_5 : decode cX7_bits 5 = .ok (.bipush 60, 2) := by decide +kernel
theorem dX7_bits_7 : decode cX7_bits 7 = .ok (.if_icmp .ge 25, 3) := by decide +kernel
theorem dX7_bits_10 : decode cX7_bits 10 = .ok (.iload_n 2, 1) := by decide +kernel
theorem dX7_bits_11 : decode cX7_bits 11 = .ok (.lload_n 0, 1) := by decide +kernel
theorem dX7_bits_12 : decode cX7_bits 12 = .ok (.iload_n 3, 1) := by decide +kernel
theorem dX7_bits_13 : decode cX7_bits 13 = .ok (.invokestatic 183, 3) := by decide +kernel
theorem dX7_bits_16 : decode cX7_bits 16 = .ok (.ifCond .eq 7, 3) := by decide +kernel
theorem dX7_bits_19 : decode cX7_bits 19 = .ok (.iconst 1, 1) := by decide +kernel
theorem dX7_bits_20 : decode cX7_bits 20 = .ok (.goto 4, 3) := by decide +kernel
theorem dX7_bits_23 : decode cX7_bits 23 = .ok (.iconst 0, 1) := by decide +kernel
theorem dX7_bits_24 : decode cX7_bits 24 = .ok (.iadd, 1) := by decide +kernel
theorem dX7_bits_25 : decode cX7_bits 25 = .ok (.istore_n 2, 1) := by decide +kernel
theorem dX7_bits_26 : decode cX7_bits 26 = .ok (.iinc 3 1, 3) := by decide +kernel
theorem dX7_bits_29 : decode cX7_bits 29 = .ok (.goto (-25), 3) := by decide +kernel
theorem dX7_bits_32 : decode cX7_bits 32 = .ok (.iload_n 2, 1) := by decide +kernel
theorem dX7_bits_33 : decode cX7_bits 33 = .ok (.ireturn, 1) := by decide +kernel
theorem dX7_lowest_0 : decode cX7_lowest 0 = .ok (.iconst 0, 1) := by decide +kernel
theorem dX7_lowest_1 : decode cX7_lowest 1 = .ok (.istore_n 2, 1) := by decide +kernel
theorem dX7_lowest_2 : decode cX7_lowest 2 = .ok (.lload_n 0, 1) := by decide +kernel
theorem dX7_lowest_3 : decode cX7_lowest 3 = .ok (.iload_n 2, 1) := by decide +kernel
theorem dX7_lowest_4 : decode cX7_lowest 4 = .ok (.invokestatic 183, 3) := by decide +kernel
theorem dX7_lowest_7 : decode cX7_lowest 7 = .ok (.ifCond .ne 9, 3) := by decide +kernel
theorem dX7_lowest_10 : decode cX7_lowest 10 = .ok (.iinc 2 1, 3) := by decide +kernel
theorem dX7_lowest_13 : decode cX7_lowest 13 = .ok (.goto (-11), 3) := by decide +kernel
theorem dX7_lowest_16 : decode cX7_lowest 16 = .ok (.iload_n 2, 1) := by decide +kernel
theorem dX7_lowest_17 : decode cX7_lowest 17 = .ok (.ireturn, 1) := by decide +kernel
theorem dX7_aboutOf_0 : decode cX7_aboutOf 0 = .ok (.lconst 0, 1) := by decide +kernel
theorem dX7_aboutOf_1 : decode cX7_aboutOf 1 = .ok (.lstore_n 3, 1) := by decide +kernel
theorem dX7_aboutOf_2 : decode cX7_aboutOf 2 = .ok (.iconst 0, 1) := by decide +kernel
theorem dX7_aboutOf_3 : decode cX7_aboutOf 3 = .ok (.istore 5, 2) := by decide +kernel
theorem dX7_aboutOf_5 : decode cX7_aboutOf 5 = .ok (.iload 5, 2) := by decide +kernel
theorem dX7_aboutOf_7 : decode cX7_aboutOf 7 = .ok (.i2l, 1) := by decide +kernel
theorem dX7_aboutOf_8 : decode cX7_aboutOf 8 = .ok (.aload_n 0, 1) := by decide +kernel
theorem dX7_aboutOf_9 : decode cX7_aboutOf 9 = .ok (.iconst 0, 1) := by decide +kernel
theorem dX7_aboutOf_10 : decode cX7_aboutOf 10 = .ok (.laload, 1) := by decide +kernel
theorem dX7_aboutOf_11 : decode cX7_aboutOf 11 = .ok (.aload_n 0, 1) := by decide +kernel
theorem dX7_aboutOf_12 : decode cX7_aboutOf 12 = .ok (.iconst 1, 1) := by decide +kernel
theorem dX7_aboutOf_13 : decode cX7_aboutOf 13 = .ok (.laload, 1) := by decide +kernel
theorem dX7_aboutOf_14 : decode cX7_aboutOf 14 = .ok (.lmul, 1) := by decide +kernel
theorem dX7_aboutOf_15 : decode cX7_aboutOf 15 = .ok (.lcmp, 1) := by decide +kernel
theorem dX7_aboutOf_16 : decode cX7_aboutOf 16 = .ok (.ifCond .ge 63, 3) := by decide +kernel
theorem dX7_aboutOf_19 : decode cX7_aboutOf 19 = .ok (.lload_n 1, 1) := by decide +kernel
theorem dX7_aboutOf_20 : decode cX7_aboutOf 20 = .ok (.iload 5, 2) := by decide +kernel
theorem dX7_aboutOf_22 : decode cX7_aboutOf 22 = .ok (.invokestatic 183, 3) := by decide +kernel
theorem dX7_aboutOf_25 : decode cX7_aboutOf 25 = .ok (.ifCond .ne 6, 3) := by decide +kernel
theorem dX7_aboutOf_28 : decode cX7_aboutOf 28 = .ok (.goto 45, 3) := by decide +kernel
theorem dX7_aboutOf_31 : decode cX7_aboutOf 31 = .ok (.iconst 0, 1) := by decide +kernel
theorem dX7_aboutOf_32 : decode cX7_aboutOf 32 = .ok (.istore 6, 2) := by decide +kernel
theorem dX7_aboutOf_34 : decode cX7_aboutOf 34 = .ok (.iload 6, 2) := by decide +kernel
theorem dX7_aboutOf_36 : decode cX7_aboutOf 36 = .ok (.iconst 4, 1) := by decide +kernel
theorem dX7_aboutOf_37 : decode cX7_aboutOf 37 = .ok (.if_icmp .ge 36, 3) := by decide +kernel
theorem dX7_aboutOf_40 : decode cX7_aboutOf 40 = .ok (.aload_n 0, 1) := by decide +kernel
theorem dX7_aboutOf_41 : decode cX7_aboutOf 41 = .ok (.iload 5, 2) := by decide +kernel
theorem dX7_aboutOf_43 : decode cX7_aboutOf 43 = .ok (.iload 6, 2) := by decide +kernel
theorem dX7_aboutOf_45 : decode cX7_aboutOf 45 = .ok (.invokestatic 187, 3) := by decide +kernel
theorem dX7_aboutOf_48 : decode cX7_aboutOf 48 = .ok (.istore 7, 2) := by decide +kernel
theorem dX7_aboutOf_50 : decode cX7_aboutOf 50 = .ok (.lload_n 3, 1) := by decide +kernel
theorem dX7_aboutOf_51 : decode cX7_aboutOf 51 = .ok (.iload 7, 2) := by decide +kernel
theorem dX7_aboutOf_53 : decode cX7_aboutOf 53 = .ok (.iconst (-1), 1) := by decide +kernel
theorem dX7_aboutOf_54 : decode cX7_aboutOf 54 = .ok (.if_icmp .ne 7, 3) := by decide +kernel
theorem dX7_aboutOf_57 : decode cX7_aboutOf 57 = .ok (.lconst 0, 1) := by decide +kernel
theorem dX7_aboutOf_58 : decode cX7_aboutOf 58 = .ok (.goto 7, 3) := by decide +kernel
theorem dX7_aboutOf_61 : decode cX7_aboutOf 61 = .ok (.lconst 1, 1) := by decide +kernel
theorem dX7_aboutOf_62 : decode cX7_aboutOf 62 = .ok (.iload 7, 2) := by decide +kernel
theorem dX7_aboutOf_64 : decode cX7_aboutOf 64 = .ok (.lshl, 1) := by decide +kernel
theorem dX7_aboutOf_65 : decode cX7_aboutOf 65 = .ok (.lor, 1) := by decide +kernel
theorem dX7_aboutOf_66 : decode cX7_aboutOf 66 = .ok (.lstore_n 3, 1) := by decide +kernel
theorem dX7_aboutOf_67 : decode cX7_aboutOf 67 = .ok (.iinc 6 1, 3) := by decide +kernel
theorem dX7_aboutOf_70 : decode cX7_aboutOf 70 = .ok (.goto (-36), 3) := by decide +kernel
theorem dX7_aboutOf_73 : decode cX7_aboutOf 73 = .ok (.iinc 5 1, 3) := by decide +kernel
theorem dX7_aboutOf_76 : decode cX7_aboutOf 76 = .ok (.goto (-71), 3) := by decide +kernel
theorem dX7_aboutOf_79 : decode cX7_aboutOf 79 = .ok (.lload_n 3, 1) := by decide +kernel
theorem dX7_aboutOf_80 : decode cX7_aboutOf 80 = .ok (.lreturn, 1) := by decide +kernel
theorem dX7_about_0 : decode cX7_about 0 = .ok (.aload_n 0, 1) := by decide +kernel
theorem dX7_about_1 : decode cX7_about 1 = .ok (.getfield 7, 3) := by decide +kernel
theorem dX7_about_4 : decode cX7_about 4 = .ok (.lload_n 1, 1) := by decide +kernel
theorem dX7_about_5 : decode cX7_about 5 = .ok (.invokestatic 191, 3) := by decide +kernel
theorem dX7_about_8 : decode cX7_about 8 = .ok (.lreturn, 1) := by decide +kernel
theorem dX7_spreadIn_0 : decode cX7_spreadIn 0 = .ok (.lconst 0, 1) := by decide +kernel
theorem dX7_spreadIn_1 : decode cX7_spreadIn 1 = .ok (.lstore 4, 2) := by decide +kernel
theorem dX7_spreadIn_3 : decode cX7_spreadIn 3 = .ok (.lconst 1, 1) := by decide +kernel
theorem dX7_spreadIn_4 : decode cX7_spreadIn 4 = .ok (.iload_n 3, 1) := by decide +kernel
theorem dX7_spreadIn_5 : decode cX7_spreadIn 5 = .ok (.lshl, 1) := by decide +kernel
theorem dX7_spreadIn_6 : decode cX7_spreadIn 6 = .ok (.lstore 6, 2) := by decide +kernel
theorem dX7_spreadIn_8 : decode cX7_spreadIn 8 = .ok (.lload 6, 2) := by decide +kernel
theorem dX7_spreadIn_10 : decode cX7_spreadIn 10 = .ok (.lload 4, 2) := by decide +kernel
theorem dX7_spreadIn_12 : decode cX7_spreadIn 12 = .ok (.lcmp, 1) := by decide +kernel
theorem dX7_spreadIn_13 : decode cX7_spreadIn 13 = .ok (.ifCond .eq 23, 3) := by decide +kernel
theorem dX7_spreadIn_16 : decode cX7_spreadIn 16 = .ok (.lload 6, 2) := by decide +kernel
theorem dX7_spreadIn_18 : decode cX7_spreadIn 18 = .ok (.lstore 4, 2) := by decide +kernel
theorem dX7_spreadIn_20 : decode cX7_spreadIn 20 = .ok (.lload 4, 2) := by decide +kernel
theorem dX7_spreadIn_22 : decode cX7_spreadIn 22 = .ok (.aload_n 0, 1) := by decide +kernel
theorem dX7_spreadIn_23 : decode cX7_spreadIn 23 = .ok (.lload 4, 2) := by decide +kernel
theorem dX7_spreadIn_25 : decode cX7_spreadIn 25 = .ok (.invokestatic 191, 3) := by decide +kernel
theorem dX7_spreadIn_28 : decode cX7_spreadIn 28 = .ok (.lor, 1) := by decide +kernel
theorem dX7_spreadIn_29 : decode cX7_spreadIn 29 = .ok (.lload_n 1, 1) := by decide +kernel
theorem dX7_spreadIn_30 : decode cX7_spreadIn 30 = .ok (.land, 1) := by decide +kernel
theorem dX7_spreadIn_31 : decode cX7_spreadIn 31 = .ok (.lstore 6, 2) := by decide +kernel
theorem dX7_spreadIn_33 : decode cX7_spreadIn 33 = .ok (.goto (-25), 3) := by decide +kernel
theorem dX7_spreadIn_36 : decode cX7_spreadIn 36 = .ok (.lload 4, 2) := by decide +kernel
theorem dX7_spreadIn_38 : decode cX7_spreadIn 38 = .ok (.lreturn, 1) := by decide +kernel
theorem dX7_spread_0 : decode cX7_spread 0 = .ok (.aload_n 0, 1) := by decide +kernel
theorem dX7_spread_1 : decode cX7_spread 1 = .ok (.getfield 7, 3) := by decide +kernel
theorem dX7_spread_4 : decode cX7_spread 4 = .ok (.lload_n 1, 1) := by decide +kernel
theorem dX7_spread_5 : decode cX7_spread 5 = .ok (.iload_n 3, 1) := by decide +kernel
theorem dX7_spread_6 : decode cX7_spread 6 = .ok (.invokestatic 195, 3) := by decide +kernel
theorem dX7_spread_9 : decode cX7_spread 9 = .ok (.lreturn, 1) := by decide +kernel
theorem dX7_isFree_0 : decode cX7_isFree 0 = .ok (.aload_n 0, 1) := by decide +kernel
theorem dX7_isFree_1 : decode cX7_isFree 1 = .ok (.bipush 11, 2) := by decide +kernel
theorem dX7_isFree_3 : decode cX7_isFree 3 = .ok (.laload, 1) := by decide +kernel
theorem dX7_isFree_4 : decode cX7_isFree 4 = .ok (.aload_n 0, 1) := by decide +kernel
theorem dX7_isFree_5 : decode cX7_isFree 5 = .ok (.bipush 12, 2) := by decide +kernel
theorem dX7_isFree_7 : decode cX7_isFree 7 = .ok (.laload, 1) := by decide +kernel
theorem dX7_isFree_8 : decode cX7_isFree 8 = .ok (.lor, 1) := by decide +kernel
theorem dX7_isFree_9 : decode cX7_isFree 9 = .ok (.ldc2_w 49, 3) := by decide +kernel
theorem dX7_isFree_12 : decode cX7_isFree 12 = .ok (.lxor, 1) := by decide +kernel
theorem dX7_isFree_13 : decode cX7_isFree 13 = .ok (.lconst 1, 1) := by decide +kernel
theorem dX7_isFree_14 : decode cX7_isFree 14 = .ok (.aload_n 0, 1) := by decide +kernel
theorem dX7_isFree_15 : decode cX7_isFree 15 = .ok (.iconst 0, 1) := by decide +kernel
theorem dX7_isFree_16 : decode cX7_isFree 16 = .ok (.laload, 1) := by decide +kernel
theorem dX7_isFree_17 : decode cX7_isFree 17 = .ok (.aload_n 0, 1) := by decide +kernel
theorem dX7_isFree_18 : decode cX7_isFree 18 = .ok (.iconst 1, 1) := by decide +kernel
theorem dX7_isFree_19 : decode cX7_isFree 19 = .ok (.laload, 1) := by decide +kernel
theorem dX7_isFree_20 : decode cX7_isFree 20 = .ok (.lmul, 1) := by decide +kernel
theorem dX7_isFree_21 : decode cX7_isFree 21 = .ok (.l2i, 1) := by decide +kernel
theorem dX7_isFree_22 : decode cX7_isFree 22 = .ok (.lshl, 1) := by decide +kernel
theorem dX7_isFree_23 : decode cX7_isFree 23 = .ok (.lconst 1, 1) := by decide +kernel
theorem dX7_isFree_24 : decode cX7_isFree 24 = .ok (.lsub, 1) := by decide +kernel
theorem dX7_isFree_25 : decode cX7_isFree 25 = .ok (.land, 1) := by decide +kernel
theorem dX7_isFree_26 : decode cX7_isFree 26 = .ok (.lstore_n 1, 1) := by decide +kernel
theorem dX7_isFree_27 : decode cX7_isFree 27 = .ok (.iconst 0, 1) := by decide +kernel
theorem dX7_isFree_28 : decode cX7_isFree 28 = .ok (.istore_n 3, 1) := by decide +kernel
theorem dX7_isFree_29 : decode cX7_isFree 29 = .ok (.iload_n 3, 1) := by decide +kernel
theorem dX7_isFree_30 : decode cX7_isFree 30 = .ok (.i2l, 1) := by decide +kernel
theorem dX7_isFree_31 : decode cX7_isFree 31 = .ok (.aload_n 0, 1) := by decide +kernel
theorem dX7_isFree_32 : decode cX7_isFree 32 = .ok (.iconst 0, 1) := by decide +kernel
theorem dX7_isFree_33 : decode cX7_isFree 33 = .ok (.laload, 1) := by decide +kernel
theorem dX7_isFree_34 : decode cX7_isFree 34 = .ok (.aload_n 0, 1) := by decide +kernel
theorem dX7_isFree_35 : decode cX7_isFree 35 = .ok (.iconst 1, 1) := by decide +kernel
theorem dX7_isFree_36 : decode cX7_isFree 36 = .ok (.laload, 1) := by decide +kernel
theorem dX7_isFree_37 : decode cX7_isFree 37 = .ok (.lmul, 1) := by decide +kernel
theorem dX7_isFree_38 : decode cX7_isFree 38 = .ok (.lcmp, 1) := by decide +kernel
theorem dX7_isFree_39 : decode cX7_isFree 39 = .ok (.ifCond .ge 62, 3) := by decide +kernel
theorem dX7_isFree_42 : decode cX7_isFree 42 = .ok (.iconst 0, 1) := by decide +kernel
theorem dX7_isFree_43 : decode cX7_isFree 43 = .ok (.istore 4, 2) := by decide +kernel
theorem dX7_isFree_45 : decode cX7_isFree 45 = .ok (.iload 4, 2) := by decide +kernel
theorem dX7_isFree_47 : decode cX7_isFree 47 = .ok (.iconst 2, 1) := by decide +kernel
theorem dX7_isFree_48 : decode cX7_isFree 48 = .ok (.if_icmp .ge 47, 3) := by decide +kernel
theorem dX7_isFree_51 : decode cX7_isFree 51 = .ok (.aload_n 0, 1) := by decide +kernel
theorem dX7_isFree_52 : decode cX7_isFree 52 = .ok (.bipush 11, 2) := by decide +kernel
theorem dX7_isFree_54 : decode cX7_isFree 54 = .ok (.iload 4, 2) := by decide +kernel
theorem dX7_isFree_56 : decode cX7_isFree 56 = .ok (.iadd, 1) := by decide +kernel
theorem dX7_isFree_57 : decode cX7_isFree 57 = .ok (.laload, 1) := by decide +kernel
theorem dX7_isFree_58 : decode cX7_isFree 58 = .ok (.lstore 5, 2) := by decide +kernel
theorem dX7_isFree_60 : decode cX7_isFree 60 = .ok (.lload 5, 2) := by decide +kernel
theorem dX7_isFree_62 : decode cX7_isFree 62 = .ok (.iload_n 3, 1) := by decide +kernel
theorem dX7_isFree_63 : decode cX7_isFree 63 = .ok (.invokestatic 183, 3) := by decide +kernel
theorem dX7_isFree_66 : decode cX7_isFree 66 = .ok (.ifCond .eq 23, 3) := by decide +kernel
theorem dX7_isFree_69 : decode cX7_isFree 69 = .ok (.aload_n 0, 1) := by decide +kernel
theorem dX7_isFree_70 : decode cX7_isFree 70 = .ok (.aload_n 0, 1) := by decide +kernel
theorem dX7_isFree_71 : decode cX7_isFree 71 = .ok (.lload 5, 2) := by decide +kernel
theorem dX7_isFree_73 : decode cX7_isFree 73 = .ok (.iload_n 3, 1) := by decide +kernel
theorem dX7_isFree_74 : decode cX7_isFree 74 = .ok (.invokestatic 195, 3) := by decide +kernel
theorem dX7_isFree_77 : decode cX7_isFree 77 = .ok (.invokestatic 191, 3) := by decide +kernel
theorem dX7_isFree_80 : decode cX7_isFree 80 = .ok (.lload_n 1, 1) := by decide +kernel
theorem dX7_isFree_81 : decode cX7_isFree 81 = .ok (.land, 1) := by decide +kernel
theorem dX7_isFree_82 : decode cX7_isFree 82 = .ok (.lconst 0, 1) := by decide +kernel
theorem dX7_isFree_83 : decode cX7_isFree 83 = .ok (.lcmp, 1) := by decide +kernel
theorem dX7_isFree_84 : decode cX7_isFree 84 = .ok (.ifCond .ne 5, 3) := by decide +kernel
theorem dX7_isFree_87 : decode cX7_isFree 87 = .ok (.iconst 0, 1) := by decide +kernel
theorem dX7_isFree_88 : decode cX7_isFree 88 = .ok (.ireturn, 1) := by decide +kernel
theorem dX7_isFree_89 : decode cX7_isFree 89 = .ok (.iinc 4 1, 3) := by decide +kernel
theorem dX7_isFree_92 : decode cX7_isFree 92 = .ok (.goto (-47), 3) := by decide +kernel
theorem dX7_isFree_95 : decode cX7_isFree 95 = .ok (.iinc 3 1, 3) := by decide +kernel
theorem dX7_isFree_98 : decode cX7_isFree 98 = .ok (.goto (-69), 3) := by decide +kernel
theorem dX7_isFree_101 : decode cX7_isFree 101 = .ok (.iconst 1, 1) := by decide +kernel
theorem dX7_isFree_102 : decode cX7_isFree 102 = .ok (.ireturn, 1) := by decide +kernel
theorem dX7_whole_0 : decode cX7_whole 0 = .ok (.lconst 1, 1) := by decide +kernel
theorem dX7_whole_1 : decode cX7_whole 1 = .ok (.aload_n 0, 1) := by decide +kernel
theorem dX7_whole_2 : decode cX7_whole 2 = .ok (.invokevirtual 180, 3) := by decide +kernel
theorem dX7_whole_5 : decode cX7_whole 5 = .ok (.lshl, 1) := by decide +kernel
theorem dX7_whole_6 : decode cX7_whole 6 = .ok (.lconst 1, 1) := by decide +kernel
theorem dX7_whole_7 : decode cX7_whole 7 = .ok (.lsub, 1) := by decide +kernel
theorem dX7_whole_8 : decode cX7_whole 8 = .ok (.lreturn, 1) := by decide +kernel
theorem dX7_stonesOf_0 : decode cX7_stonesOf 0 = .ok (.aload_n 0, 1) := by decide +kernel
theorem dX7_stonesOf_1 : decode cX7_stonesOf 1 = .ok (.getfield 7, 3) := by decide +kernel
theorem dX7_stonesOf_4 : decode cX7_stonesOf 4 = .ok (.bipush 11, 2) := by decide +kernel
theorem dX7_stonesOf_6 : decode cX7_stonesOf 6 = .ok (.iload_n 1, 1) := by decide +kernel
theorem dX7_stonesOf_7 : decode cX7_stonesOf 7 = .ok (.iadd, 1) := by decide +kernel
theorem dX7_stonesOf_8 : decode cX7_stonesOf 8 = .ok (.iconst 1, 1) := by decide +kernel
theorem dX7_stonesOf_9 : decode cX7_stonesOf 9 = .ok (.isub, 1) := by decide +kernel
theorem dX7_stonesOf_10 : decode cX7_stonesOf 10 = .ok (.laload, 1) := by decide +kernel
theorem dX7_stonesOf_11 : decode cX7_stonesOf 11 = .ok (.lreturn, 1) := by decide +kernel
theorem dX7_emptyNow_0 : decode cX7_emptyNow 0 = .ok (.aload_n 0, 1) := by decide +kernel
theorem dX7_emptyNow_1 : decode cX7_emptyNow 1 = .ok (.invokevirtual 199, 3) := by decide +kernel
theorem dX7_emptyNow_4 : decode cX7_emptyNow 4 = .ok (.aload_n 0, 1) := by decide +kernel
theorem dX7_emptyNow_5 : decode cX7_emptyNow 5 = .ok (.getfield 7, 3) := by decide +kernel
theorem dX7_emptyNow_8 : decode cX7_emptyNow 8 = .ok (.bipush 11, 2) := by decide +kernel
theorem dX7_emptyNow_10 : decode cX7_emptyNow 10 = .ok (.laload, 1) := by decide +kernel
theorem dX7_emptyNow_11 : decode cX7_emptyNow 11 = .ok (.aload_n 0, 1) := by decide +kernel
theorem dX7_emptyNow_12 : decode cX7_emptyNow 12 = .ok (.getfield 7, 3) := by decide +kernel
theorem dX7_emptyNow_15 : decode cX7_emptyNow 15 = .ok (.bipush 12, 2) := by decide +kernel
theorem dX7_emptyNow_17 : decode cX7_emptyNow 17 = .ok (.laload, 1) := by decide +kernel
theorem dX7_emptyNow_18 : decode cX7_emptyNow 18 = .ok (.lor, 1) := by decide +kernel
theorem dX7_emptyNow_19 : decode cX7_emptyNow 19 = .ok (.ldc2_w 49, 3) := by decide +kernel
theorem dX7_emptyNow_22 : decode cX7_emptyNow 22 = .ok (.lxor, 1) := by decide +kernel
theorem dX7_emptyNow_23 : decode cX7_emptyNow 23 = .ok (.land, 1) := by decide +kernel
theorem dX7_emptyNow_24 : decode cX7_emptyNow 24 = .ok (.lreturn, 1) := by decide +kernel
theorem dX7_colourAt_0 : decode cX7_colourAt 0 = .ok (.aload_n 0, 1) := by decide +kernel
theorem dX7_colourAt_1 : decode cX7_colourAt 1 = .ok (.getfield 7, 3) := by decide +kernel
theorem dX7_colourAt_4 : decode cX7_colourAt 4 = .ok (.bipush 11, 2) := by decide +kernel
theorem dX7_colourAt_6 : decode cX7_colourAt 6 = .ok (.laload, 1) := by decide +kernel
theorem dX7_colourAt_7 : decode cX7_colourAt 7 = .ok (.iload_n 1, 1) := by decide +kernel
theorem dX7_colourAt_8 : decode cX7_colourAt 8 = .ok (.invokestatic 183, 3) := by decide +kernel
theorem dX7_colourAt_11 : decode cX7_colourAt 11 = .ok (.ifCond .eq 7, 3) := by decide +kernel
theorem dX7_colourAt_14 : decode cX7_colourAt 14 = .ok (.iconst 1, 1) := by decide +kernel
theorem dX7_colourAt_15 : decode cX7_colourAt 15 = .ok (.goto 22, 3) := by decide +kernel
theorem dX7_colourAt_18 : decode cX7_colourAt 18 = .ok (.aload_n 0, 1) := by decide +kernel
theorem dX7_colourAt_19 : decode cX7_colourAt 19 = .ok (.getfield 7, 3) := by decide +kernel
theorem dX7_colourAt_22 : decode cX7_colourAt 22 = .ok (.bipush 12, 2) := by decide +kernel
theorem dX7_colourAt_24 : decode cX7_colourAt 24 = .ok (.laload, 1) := by decide +kernel
theorem dX7_colourAt_25 : decode cX7_colourAt 25 = .ok (.iload_n 1, 1) := by decide +kernel
theorem dX7_colourAt_26 : decode cX7_colourAt 26 = .ok (.invokestatic 183, 3) := by decide +kernel
theorem dX7_colourAt_29 : decode cX7_colourAt 29 = .ok (.ifCond .eq 7, 3) := by decide +kernel
theorem dX7_colourAt_32 : decode cX7_colourAt 32 = .ok (.iconst 2, 1) := by decide +kernel
theorem dX7_colourAt_33 : decode cX7_colourAt 33 = .ok (.goto 4, 3) := by decide +kernel
theorem dX7_colourAt_36 : decode cX7_colourAt 36 = .ok (.iconst 0, 1) := by decide +kernel
theorem dX7_colourAt_37 : decode cX7_colourAt 37 = .ok (.ireturn, 1) := by decide +kernel
theorem dX7_chainAt_0 : decode cX7_chainAt 0 = .ok (.aload_n 0, 1) := by decide +kernel
theorem dX7_chainAt_1 : decode cX7_chainAt 1 = .ok (.aload_n 0, 1) := by decide +kernel
theorem dX7_chainAt_2 : decode cX7_chainAt 2 = .ok (.aload_n 0, 1) := by decide +kernel
theorem dX7_chainAt_3 : decode cX7_chainAt 3 = .ok (.iload_n 1, 1) := by decide +kernel
theorem dX7_chainAt_4 : decode cX7_chainAt 4 = .ok (.invokevirtual 203, 3) := by decide +kernel
theorem dX7_chainAt_7 : decode cX7_chainAt 7 = .ok (.invokevirtual 206, 3) := by decide +kernel
theorem dX7_chainAt_10 : decode cX7_chainAt 10 = .ok (.iload_n 1, 1) := by decide +kernel
theorem dX7_chainAt_11 : decode cX7_chainAt 11 = .ok (.invokevirtual 210, 3) := by decide +kernel
theorem dX7_chainAt_14 : decode cX7_chainAt 14 = .ok (.lreturn, 1) := by decide +kernel
theorem dX7_freedomsOf_0 : decode cX7_freedomsOf 0 = .ok (.aload_n 0, 1) := by decide +kernel
theorem dX7_freedomsOf_1 : decode cX7_freedomsOf 1 = .ok (.lload_n 1, 1) := by decide +kernel
theorem dX7_freedomsOf_2 : decode cX7_freedomsOf 2 = .ok (.invokevirtual 214, 3) := by decide +kernel
theorem dX7_freedomsOf_5 : decode cX7_freedomsOf 5 = .ok (.aload_n 0, 1) := by decide +kernel
theorem dX7_freedomsOf_6 : decode cX7_freedomsOf 6 = .ok (.invokevirtual 218, 3) := by decide +kernel
theorem dX7_freedomsOf_9 : decode cX7_freedomsOf 9 = .ok (.land, 1) := by decide +kernel
theorem dX7_freedomsOf_10 : decode cX7_freedomsOf 10 = .ok (.lreturn, 1) := by decide +kernel
theorem dX7_count_0 : decode cX7_count 0 = .ok (.aload_n 0, 1) := by decide +kernel
theorem dX7_count_1 : decode cX7_count 1 = .ok (.iload_n 1, 1) := by decide +kernel
theorem dX7_count_2 : decode cX7_count 2 = .ok (.i2l, 1) := by decide +kernel
theorem dX7_count_3 : decode cX7_count 3 = .ok (.lconst 0, 1) := by decide +kernel
theorem dX7_count_4 : decode cX7_count 4 = .ok (.ldc2_w 221, 3) := by decide +kernel
theorem dX7_count_7 : decode cX7_count 7 = .ok (.invokestatic 61, 3) := by decide +kernel
theorem dX7_count_10 : decode cX7_count 10 = .ok (.ifCond .eq 7, 3) := by decide +kernel
theorem dX7_count_13 : decode cX7_count 13 = .ok (.iconst 0, 1) := by decide +kernel
theorem dX7_count_14 : decode cX7_count 14 = .ok (.goto 4, 3) := by decide +kernel
theorem dX7_count_17 : decode cX7_count 17 = .ok (.iconst 1, 1) := by decide +kernel
theorem dX7_count_18 : decode cX7_count 18 = .ok (.putfield 51, 3) := by decide +kernel
theorem dX7_count_21 : decode cX7_count 21 = .ok (.aload_n 0, 1) := by decide +kernel
theorem dX7_count_22 : decode cX7_count 22 = .ok (.getfield 51, 3) := by decide +kernel
theorem dX7_count_25 : decode cX7_count 25 = .ok (.ifCond .le 5, 3) := by decide +kernel
theorem dX7_count_28 : decode cX7_count 28 = .ok (.iconst 0, 1) := by decide +kernel
theorem dX7_count_29 : decode cX7_count 29 = .ok (.ireturn, 1) := by decide +kernel
theorem dX7_count_30 : decode cX7_count 30 = .ok (.iload_n 1, 1) := by decide +kernel
theorem dX7_count_31 : decode cX7_count 31 = .ok (.tableswitch 143 2 11 #[53, 64, 75, 83, 91, 99, 107, 116, 125, 134], 53) := by decide +kernel
theorem dX7_count_84 : decode cX7_count 84 = .ok (.aload_n 0, 1) := by decide +kernel
theorem dX7_count_85 : decode cX7_count 85 = .ok (.getfield 7, 3) := by decide +kernel
theorem dX7_count_88 : decode cX7_count 88 = .ok (.bipush 11, 2) := by decide +kernel
theorem dX7_count_90 : decode cX7_count 90 = .ok (.laload, 1) := by decide +kernel
theorem dX7_count_91 : decode cX7_count 91 = .ok (.invokestatic 57, 3) := by decide +kernel
theorem dX7_count_94 : decode cX7_count 94 = .ok (.ireturn, 1) := by decide +kernel
theorem dX7_count_95 : decode cX7_count 95 = .ok (.aload_n 0, 1) := by decide +kernel
theorem dX7_count_96 : decode cX7_count 96 = .ok (.getfield 7, 3) := by decide +kernel
theorem dX7_count_99 : decode cX7_count 99 = .ok (.bipush 12, 2) := by decide +kernel
theorem dX7_count_101 : decode cX7_count 101 = .ok (.laload, 1) := by decide +kernel
theorem dX7_count_102 : decode cX7_count 102 = .ok (.invokestatic 57, 3) := by decide +kernel
theorem dX7_count_105 : decode cX7_count 105 = .ok (.ireturn, 1) := by decide +kernel
theorem dX7_count_106 : decode cX7_count 106 = .ok (.aload_n 0, 1) := by decide +kernel
theorem dX7_count_107 : decode cX7_count 107 = .ok (.getfield 7, 3) := by decide +kernel
theorem dX7_count_110 : decode cX7_count 110 = .ok (.iconst 2, 1) := by decide +kernel
theorem dX7_count_111 : decode cX7_count 111 = .ok (.laload, 1) := by decide +kernel
theorem dX7_count_112 : decode cX7_count 112 = .ok (.l2i, 1) := by decide +kernel
theorem dX7_count_113 : decode cX7_count 113 = .ok (.ireturn, 1) := by decide +kernel
theorem dX7_count_114 : decode cX7_count 114 = .ok (.aload_n 0, 1) := by decide +kernel
theorem dX7_count_115 : decode cX7_count 115 = .ok (.getfield 7, 3) := by decide +kernel
theorem dX7_count_118 : decode cX7_count 118 = .ok (.iconst 3, 1) := by decide +kernel
theorem dX7_count_119 : decode cX7_count 119 = .ok (.laload, 1) := by decide +kernel
theorem dX7_count_120 : decode cX7_count 120 = .ok (.l2i, 1) := by decide +kernel
theorem dX7_count_121 : decode cX7_count 121 = .ok (.ireturn, 1) := by decide +kernel
theorem dX7_count_122 : decode cX7_count 122 = .ok (.aload_n 0, 1) := by decide +kernel
theorem dX7_count_123 : decode cX7_count 123 = .ok (.getfield 7, 3) := by decide +kernel
theorem dX7_count_126 : decode cX7_count 126 = .ok (.iconst 4, 1) := by decide +kernel
theorem dX7_count_127 : decode cX7_count 127 = .ok (.laload, 1) := by decide +kernel
theorem dX7_count_128 : decode cX7_count 128 = .ok (.l2i, 1) := by decide +kernel
theorem dX7_count_129 : decode cX7_count 129 = .ok (.ireturn, 1) := by decide +kernel
theorem dX7_count_130 : decode cX7_count 130 = .ok (.aload_n 0, 1) := by decide +kernel
theorem dX7_count_131 : decode cX7_count 131 = .ok (.getfield 7, 3) := by decide +kernel
theorem dX7_count_134 : decode cX7_count 134 = .ok (.iconst 5, 1) := by decide +kernel
theorem dX7_count_135 : decode cX7_count 135 = .ok (.laload, 1) := by decide +kernel
theorem dX7_count_136 : decode cX7_count 136 = .ok (.l2i, 1) := by decide +kernel
theorem dX7_count_137 : decode cX7_count 137 = .ok (.ireturn, 1) := by decide +kernel
theorem dX7_count_138 : decode cX7_count 138 = .ok (.aload_n 0, 1) := by decide +kernel
theorem dX7_count_139 : decode cX7_count 139 = .ok (.getfield 7, 3) := by decide +kernel
theorem dX7_count_142 : decode cX7_count 142 = .ok (.bipush 6, 2) := by decide +kernel
theorem dX7_count_144 : decode cX7_count 144 = .ok (.laload, 1) := by decide +kernel
theorem dX7_count_145 : decode cX7_count 145 = .ok (.l2i, 1) := by decide +kernel
theorem dX7_count_146 : decode cX7_count 146 = .ok (.ireturn, 1) := by decide +kernel
theorem dX7_count_147 : decode cX7_count 147 = .ok (.aload_n 0, 1) := by decide +kernel
theorem dX7_count_148 : decode cX7_count 148 = .ok (.getfield 7, 3) := by decide +kernel
theorem dX7_count_151 : decode cX7_count 151 = .ok (.bipush 7, 2) := by decide +kernel
theorem dX7_count_153 : decode cX7_count 153 = .ok (.laload, 1) := by decide +kernel
theorem dX7_count_154 : decode cX7_count 154 = .ok (.l2i, 1) := by decide +kernel
theorem dX7_count_155 : decode cX7_count 155 = .ok (.ireturn, 1) := by decide +kernel
theorem dX7_count_156 : decode cX7_count 156 = .ok (.aload_n 0, 1) := by decide +kernel
theorem dX7_count_157 : decode cX7_count 157 = .ok (.getfield 7, 3) := by decide +kernel
theorem dX7_count_160 : decode cX7_count 160 = .ok (.bipush 8, 2) := by decide +kernel
theorem dX7_count_162 : decode cX7_count 162 = .ok (.laload, 1) := by decide +kernel
theorem dX7_count_163 : decode cX7_count 163 = .ok (.l2i, 1) := by decide +kernel
theorem dX7_count_164 : decode cX7_count 164 = .ok (.ireturn, 1) := by decide +kernel
theorem dX7_count_165 : decode cX7_count 165 = .ok (.aload_n 0, 1) := by decide +kernel
theorem dX7_count_166 : decode cX7_count 166 = .ok (.getfield 7, 3) := by decide +kernel
theorem dX7_count_169 : decode cX7_count 169 = .ok (.bipush 9, 2) := by decide +kernel
theorem dX7_count_171 : decode cX7_count 171 = .ok (.laload, 1) := by decide +kernel
theorem dX7_count_172 : decode cX7_count 172 = .ok (.l2i, 1) := by decide +kernel
theorem dX7_count_173 : decode cX7_count 173 = .ok (.ireturn, 1) := by decide +kernel
theorem dX7_count_174 : decode cX7_count 174 = .ok (.aload_n 0, 1) := by decide +kernel
theorem dX7_count_175 : decode cX7_count 175 = .ok (.getfield 7, 3) := by decide +kernel
theorem dX7_count_178 : decode cX7_count 178 = .ok (.iload_n 1, 1) := by decide +kernel
theorem dX7_count_179 : decode cX7_count 179 = .ok (.laload, 1) := by decide +kernel
theorem dX7_count_180 : decode cX7_count 180 = .ok (.l2i, 1) := by decide +kernel
theorem dX7_count_181 : decode cX7_count 181 = .ok (.ireturn, 1) := by decide +kernel
theorem dX7_place_0 : decode cX7_place 0 = .ok (.aload_n 0, 1) := by decide +kernel
theorem dX7_place_1 : decode cX7_place 1 = .ok (.iload_n 1, 1) := by decide +kernel
theorem dX7_place_2 : decode cX7_place 2 = .ok (.i2l, 1) := by decide +kernel
theorem dX7_place_3 : decode cX7_place 3 = .ok (.lconst 0, 1) := by decide +kernel
theorem dX7_place_4 : decode cX7_place 4 = .ok (.aload_n 0, 1) := by decide +kernel
theorem dX7_place_5 : decode cX7_place 5 = .ok (.getfield 7, 3) := by decide +kernel
theorem dX7_place_8 : decode cX7_place 8 = .ok (.iconst 0, 1) := by decide +kernel
theorem dX7_place_9 : decode cX7_place 9 = .ok (.laload, 1) := by decide +kernel
theorem dX7_place_10 : decode cX7_place 10 = .ok (.lconst 1, 1) := by decide +kernel
theorem dX7_place_11 : decode cX7_place 11 = .ok (.lsub, 1) := by decide +kernel
theorem dX7_place_12 : decode cX7_place 12 = .ok (.invokestatic 61, 3) := by decide +kernel
theorem dX7_place_15 : decode cX7_place 15 = .ok (.ifCond .eq 24, 3) := by decide +kernel
theorem dX7_place_18 : decode cX7_place 18 = .ok (.iload_n 2, 1) := by decide +kernel
theorem dX7_place_19 : decode cX7_place 19 = .ok (.i2l, 1) := by decide +kernel
theorem dX7_place_20 : decode cX7_place 20 = .ok (.lconst 0, 1) := by decide +kernel
theorem dX7_place_21 : decode cX7_place 21 = .ok (.aload_n 0, 1) := by decide +kernel
theorem dX7_place_22 : decode cX7_place 22 = .ok (.getfield 7, 3) := by decide +kernel
theorem dX7_place_25 : decode cX7_place 25 = .ok (.iconst 1, 1) := by decide +kernel
theorem dX7_place_26 : decode cX7_place 26 = .ok (.laload, 1) := by decide +kernel
theorem dX7_place_27 : decode cX7_place 27 = .ok (.lconst 1, 1) := by decide +kernel
theorem dX7_place_28 : decode cX7_place 28 = .ok (.lsub, 1) := by decide +kernel
theorem dX7_place_29 : decode cX7_place 29 = .ok (.invokestatic 61, 3) := by decide +kernel
theorem dX7_place_32 : decode cX7_place 32 = .ok (.ifCond .eq 7, 3) := by decide +kernel
theorem dX7_place_35 : decode cX7_place 35 = .ok (.iconst 0, 1) := by decide +kernel
theorem dX7_place_36 : decode cX7_place 36 = .ok (.goto 4, 3) := by decide +kernel
theorem dX7_place_39 : decode cX7_place 39 = .ok (.iconst 1, 1) := by decide +kernel
theorem dX7_place_40 : decode cX7_place 40 = .ok (.putfield 51, 3) := by decide +kernel
theorem dX7_place_43 : decode cX7_place 43 = .ok (.aload_n 0, 1) := by decide +kernel
theorem dX7_place_44 : decode cX7_place 44 = .ok (.getfield 51, 3) := by decide +kernel
theorem dX7_place_47 : decode cX7_place 47 = .ok (.ifCond .le 7, 3) := by decide +kernel
theorem dX7_place_50 : decode cX7_place 50 = .ok (.iconst 0, 1) := by decide +kernel
theorem dX7_place_51 : decode cX7_place 51 = .ok (.goto 14, 3) := by decide +kernel
theorem dX7_place_54 : decode cX7_place 54 = .ok (.aload_n 0, 1) := by decide +kernel
theorem dX7_place_55 : decode cX7_place 55 = .ok (.getfield 7, 3) := by decide +kernel
theorem dX7_place_58 : decode cX7_place 58 = .ok (.iconst 1, 1) := by decide +kernel
theorem dX7_place_59 : decode cX7_place 59 = .ok (.laload, 1) := by decide +kernel
theorem dX7_place_60 : decode cX7_place 60 = .ok (.l2i, 1) := by decide +kernel
theorem dX7_place_61 : decode cX7_place 61 = .ok (.iload_n 1, 1) := by decide +kernel
theorem dX7_place_62 : decode cX7_place 62 = .ok (.imul, 1) := by decide +kernel
theorem dX7_place_63 : decode cX7_place 63 = .ok (.iload_n 2, 1) := by decide +kernel
theorem dX7_place_64 : decode cX7_place 64 = .ok (.iadd, 1) := by decide +kernel
theorem dX7_place_65 : decode cX7_place 65 = .ok (.ireturn, 1) := by decide +kernel
theorem dX7_neighbour_0 : decode cX7_neighbour 0 = .ok (.aload_n 0, 1) := by decide +kernel
theorem dX7_neighbour_1 : decode cX7_neighbour 1 = .ok (.aload_n 0, 1) := by decide +kernel
theorem dX7_neighbour_2 : decode cX7_neighbour 2 = .ok (.iload_n 1, 1) := by decide +kernel
theorem dX7_neighbour_3 : decode cX7_neighbour 3 = .ok (.invokevirtual 223, 3) := by decide +kernel
theorem dX7_neighbour_6 : decode cX7_neighbour 6 = .ok (.ifCond .ne 7, 3) := by decide +kernel
theorem dX7_neighbour_9 : decode cX7_neighbour 9 = .ok (.iconst 1, 1) := by decide +kernel
theorem dX7_neighbour_10 : decode cX7_neighbour 10 = .ok (.goto 20, 3) := by decide +kernel
theorem dX7_neighbour_13 : decode cX7_neighbour 13 = .ok (.iload_n 2, 1) := by decide +kernel
theorem dX7_neighbour_14 : decode cX7_neighbour 14 = .ok (.i2l, 1) := by decide +kernel
theorem dX7_neighbour_15 : decode cX7_neighbour 15 = .ok (.lconst 0, 1) := by decide +kernel
theorem dX7_neighbour_16 : decode cX7_neighbour 16 = .ok (.ldc2_w 47, 3) := by decide +kernel
theorem dX7_neighbour_19 : decode cX7_neighbour 19 = .ok (.invokestatic 61, 3) := by decide +kernel
theorem dX7_neighbour_22 : decode cX7_neighbour 22 = .ok (.ifCond .eq 7, 3) := by decide +kernel
theorem dX7_neighbour_25 : decode cX7_neighbour 25 = .ok (.iconst 0, 1) := by decide +kernel
theorem dX7_neighbour_26 : decode cX7_neighbour 26 = .ok (.goto 4, 3) := by decide +kernel
theorem dX7_neighbour_29 : decode cX7_neighbour 29 = .ok (.iconst 2, 1) := by decide +kernel
theorem dX7_neighbour_30 : decode cX7_neighbour 30 = .ok (.putfield 51, 3) := by decide +kernel
theorem dX7_neighbour_33 : decode cX7_neighbour 33 = .ok (.aload_n 0, 1) := by decide +kernel
theorem dX7_neighbour_34 : decode cX7_neighbour 34 = .ok (.getfield 51, 3) := by decide +kernel
theorem dX7_neighbour_37 : decode cX7_neighbour 37 = .ok (.ifCond .le 7, 3) := by decide +kernel
theorem dX7_neighbour_40 : decode cX7_neighbour 40 = .ok (.iconst 0, 1) := by decide +kernel
theorem dX7_neighbour_41 : decode cX7_neighbour 41 = .ok (.goto 12, 3) := by decide +kernel
theorem dX7_neighbour_44 : decode cX7_neighbour 44 = .ok (.aload_n 0, 1) := by decide +kernel
theorem dX7_neighbour_45 : decode cX7_neighbour 45 = .ok (.getfield 7, 3) := by decide +kernel
theorem dX7_neighbour_48 : decode cX7_neighbour 48 = .ok (.iload_n 1, 1) := by decide +kernel
theorem dX7_neighbour_49 : decode cX7_neighbour 49 = .ok (.iload_n 2, 1) := by decide +kernel
theorem dX7_neighbour_50 : decode cX7_neighbour 50 = .ok (.invokestatic 187, 3) := by decide +kernel
theorem dX7_neighbour_53 : decode cX7_neighbour 53 = .ok (.ireturn, 1) := by decide +kernel
theorem dX7_stone_0 : decode cX7_stone 0 = .ok (.aload_n 0, 1) := by decide +kernel
theorem dX7_stone_1 : decode cX7_stone 1 = .ok (.aload_n 0, 1) := by decide +kernel
theorem dX7_stone_2 : decode cX7_stone 2 = .ok (.iload_n 1, 1) := by decide +kernel
theorem dX7_stone_3 : decode cX7_stone 3 = .ok (.invokevirtual 223, 3) := by decide +kernel
theorem dX7_stone_6 : decode cX7_stone 6 = .ok (.ifCond .eq 7, 3) := by decide +kernel
theorem dX7_stone_9 : decode cX7_stone 9 = .ok (.iconst 0, 1) := by decide +kernel
theorem dX7_stone_10 : decode cX7_stone 10 = .ok (.goto 4, 3) := by decide +kernel
theorem dX7_stone_13 : decode cX7_stone 13 = .ok (.iconst 1, 1) := by decide +kernel
theorem dX7_stone_14 : decode cX7_stone 14 = .ok (.putfield 51, 3) := by decide +kernel
theorem dX7_stone_17 : decode cX7_stone 17 = .ok (.aload_n 0, 1) := by decide +kernel
theorem dX7_stone_18 : decode cX7_stone 18 = .ok (.getfield 51, 3) := by decide +kernel
theorem dX7_stone_21 : decode cX7_stone 21 = .ok (.ifCond .le 7, 3) := by decide +kernel
theorem dX7_stone_24 : decode cX7_stone 24 = .ok (.iconst 0, 1) := by decide +kernel
theorem dX7_stone_25 : decode cX7_stone 25 = .ok (.goto 8, 3) := by decide +kernel
theorem dX7_stone_28 : decode cX7_stone 28 = .ok (.aload_n 0, 1) := by decide +kernel
theorem dX7_stone_29 : decode cX7_stone 29 = .ok (.iload_n 1, 1) := by decide +kernel
theorem dX7_stone_30 : decode cX7_stone 30 = .ok (.invokevirtual 203, 3) := by decide +kernel
theorem dX7_stone_33 : decode cX7_stone 33 = .ok (.ireturn, 1) := by decide +kernel
theorem dX7_chain_0 : decode cX7_chain 0 = .ok (.aload_n 0, 1) := by decide +kernel
theorem dX7_chain_1 : decode cX7_chain 1 = .ok (.aload_n 0, 1) := by decide +kernel
theorem dX7_chain_2 : decode cX7_chain 2 = .ok (.iload_n 1, 1) := by decide +kernel
theorem dX7_chain_3 : decode cX7_chain 3 = .ok (.invokevirtual 223, 3) := by decide +kernel
theorem dX7_chain_6 : decode cX7_chain 6 = .ok (.ifCond .ne 7, 3) := by decide +kernel
theorem dX7_chain_9 : decode cX7_chain 9 = .ok (.iconst 1, 1) := by decide +kernel
theorem dX7_chain_10 : decode cX7_chain 10 = .ok (.goto 32, 3) := by decide +kernel
theorem dX7_chain_13 : decode cX7_chain 13 = .ok (.iload_n 2, 1) := by decide +kernel
theorem dX7_chain_14 : decode cX7_chain 14 = .ok (.i2l, 1) := by decide +kernel
theorem dX7_chain_15 : decode cX7_chain 15 = .ok (.lconst 0, 1) := by decide +kernel
theorem dX7_chain_16 : decode cX7_chain 16 = .ok (.ldc2_w 226, 3) := by decide +kernel
theorem dX7_chain_19 : decode cX7_chain 19 = .ok (.invokestatic 61, 3) := by decide +kernel
theorem dX7_chain_22 : decode cX7_chain 22 = .ok (.ifCond .ne 7, 3) := by decide +kernel
theorem dX7_chain_25 : decode cX7_chain 25 = .ok (.iconst 2, 1) := by decide +kernel
theorem dX7_chain_26 : decode cX7_chain 26 = .ok (.goto 16, 3) := by decide +kernel
theorem dX7_chain_29 : decode cX7_chain 29 = .ok (.aload_n 0, 1) := by decide +kernel
theorem dX7_chain_30 : decode cX7_chain 30 = .ok (.iload_n 1, 1) := by decide +kernel
theorem dX7_chain_31 : decode cX7_chain 31 = .ok (.invokevirtual 203, 3) := by decide +kernel
theorem dX7_chain_34 : decode cX7_chain 34 = .ok (.ifCond .ne 7, 3) := by decide +kernel
theorem dX7_chain_37 : decode cX7_chain 37 = .ok (.iconst 3, 1) := by decide +kernel
theorem dX7_chain_38 : decode cX7_chain 38 = .ok (.goto 4, 3) := by decide +kernel
theorem dX7_chain_41 : decode cX7_chain 41 = .ok (.iconst 0, 1) := by decide +kernel
theorem dX7_chain_42 : decode cX7_chain 42 = .ok (.putfield 51, 3) := by decide +kernel
theorem dX7_chain_45 : decode cX7_chain 45 = .ok (.aload_n 0, 1) := by decide +kernel
theorem dX7_chain_46 : decode cX7_chain 46 = .ok (.getfield 51, 3) := by decide +kernel
theorem dX7_chain_49 : decode cX7_chain 49 = .ok (.ifCond .le 5, 3) := by decide +kernel
theorem dX7_chain_52 : decode cX7_chain 52 = .ok (.iconst 0, 1) := by decide +kernel
theorem dX7_chain_53 : decode cX7_chain 53 = .ok (.ireturn, 1) := by decide +kernel
theorem dX7_chain_54 : decode cX7_chain 54 = .ok (.aload_n 0, 1) := by decide +kernel
theorem dX7_chain_55 : decode cX7_chain 55 = .ok (.iload_n 1, 1) := by decide +kernel
theorem dX7_chain_56 : decode cX7_chain 56 = .ok (.invokevirtual 228, 3) := by decide +kernel
theorem dX7_chain_59 : decode cX7_chain 59 = .ok (.lstore_n 3, 1) := by decide +kernel
theorem dX7_chain_60 : decode cX7_chain 60 = .ok (.aload_n 0, 1) := by decide +kernel
theorem dX7_chain_61 : decode cX7_chain 61 = .ok (.lload_n 3, 1) := by decide +kernel
theorem dX7_chain_62 : decode cX7_chain 62 = .ok (.invokevirtual 231, 3) := by decide +kernel
theorem dX7_chain_65 : decode cX7_chain 65 = .ok (.lstore 5, 2) := by decide +kernel
theorem dX7_chain_67 : decode cX7_chain 67 = .ok (.iload_n 2, 1) := by decide +kernel
theorem dX7_chain_68 : decode cX7_chain 68 = .ok (.ifCond .ne 10, 3) := by decide +kernel
theorem dX7_chain_71 : decode cX7_chain 71 = .ok (.lload_n 3, 1) := by decide +kernel
theorem dX7_chain_72 : decode cX7_chain 72 = .ok (.invokestatic 234, 3) := by decide +kernel
theorem dX7_chain_75 : decode cX7_chain 75 = .ok (.goto 55, 3) := by decide +kernel
theorem dX7_chain_78 : decode cX7_chain 78 = .ok (.iload_n 2, 1) := by decide +kernel
theorem dX7_chain_79 : decode cX7_chain 79 = .ok (.iconst 1, 1) := by decide +kernel
theorem dX7_chain_80 : decode cX7_chain 80 = .ok (.if_icmp .ne 10, 3) := by decide +kernel
theorem dX7_chain_83 : decode cX7_chain 83 = .ok (.lload_n 3, 1) := by decide +kernel
theorem dX7_chain_84 : decode cX7_chain 84 = .ok (.invokestatic 57, 3) := by decide +kernel
theorem dX7_chain_87 : decode cX7_chain 87 = .ok (.goto 43, 3) := by decide +kernel
theorem dX7_chain_90 : decode cX7_chain 90 = .ok (.iload_n 2, 1) := by decide +kernel
theorem dX7_chain_91 : decode cX7_chain 91 = .ok (.iconst 2, 1) := by decide +kernel
theorem dX7_chain_92 : decode cX7_chain 92 = .ok (.if_icmp .ne 11, 3) := by decide +kernel
theorem dX7_chain_95 : decode cX7_chain 95 = .ok (.lload 5, 2) := by decide +kernel
theorem dX7_chain_97 : decode cX7_chain 97 = .ok (.invokestatic 57, 3) := by decide +kernel
theorem dX7_chain_100 : decode cX7_chain 100 = .ok (.goto 30, 3) := by decide +kernel
theorem dX7_chain_103 : decode cX7_chain 103 = .ok (.iload_n 2, 1) := by decide +kernel
theorem dX7_chain_104 : decode cX7_chain 104 = .ok (.iconst 3, 1) := by decide +kernel
theorem dX7_chain_105 : decode cX7_chain 105 = .ok (.if_icmp .ne 11, 3) := by decide +kernel
theorem dX7_chain_108 : decode cX7_chain 108 = .ok (.lload 5, 2) := by decide +kernel
theorem dX7_chain_110 : decode cX7_chain 110 = .ok (.invokestatic 234, 3) := by decide +kernel
theorem dX7_chain_113 : decode cX7_chain 113 = .ok (.goto 17, 3) := by decide +kernel
theorem dX7_chain_116 : decode cX7_chain 116 = .ok (.aload_n 0, 1) := by decide +kernel
theorem dX7_chain_117 : decode cX7_chain 117 = .ok (.lload_n 3, 1) := by decide +kernel
theorem dX7_chain_118 : decode cX7_chain 118 = .ok (.aload_n 0, 1) := by decide +kernel
theorem dX7_chain_119 : decode cX7_chain 119 = .ok (.iload_n 1, 1) := by decide +kernel
theorem dX7_chain_120 : decode cX7_chain 120 = .ok (.invokevirtual 203, 3) := by decide +kernel
theorem dX7_chain_123 : decode cX7_chain 123 = .ok (.aload_n 0, 1) := by decide +kernel
theorem dX7_chain_124 : decode cX7_chain 124 = .ok (.invokevirtual 199, 3) := by decide +kernel
theorem dX7_chain_127 : decode cX7_chain 127 = .ok (.invokevirtual 237, 3) := by decide +kernel
theorem dX7_chain_130 : decode cX7_chain 130 = .ok (.ireturn, 1) := by decide +kernel
theorem dX7_freedom_0 : decode cX7_freedom 0 = .ok (.aload_n 0, 1) := by decide +kernel
theorem dX7_freedom_1 : decode cX7_freedom 1 = .ok (.iload_n 1, 1) := by decide +kernel
theorem dX7_freedom_2 : decode cX7_freedom 2 = .ok (.invokevirtual 223, 3) := by decide +kernel
theorem dX7_freedom_5 : decode cX7_freedom 5 = .ok (.ifCond .eq 23, 3) := by decide +kernel
theorem dX7_freedom_8 : decode cX7_freedom 8 = .ok (.aload_n 0, 1) := by decide +kernel
theorem dX7_freedom_9 : decode cX7_freedom 9 = .ok (.iload_n 1, 1) := by decide +kernel
theorem dX7_freedom_10 : decode cX7_freedom 10 = .ok (.invokevirtual 203, 3) := by decide +kernel
theorem dX7_freedom_13 : decode cX7_freedom 13 = .ok (.ifCond .le 15, 3) := by decide +kernel
theorem dX7_freedom_16 : decode cX7_freedom 16 = .ok (.aload_n 0, 1) := by decide +kernel
theorem dX7_freedom_17 : decode cX7_freedom 17 = .ok (.aload_n 0, 1) := by decide +kernel
theorem dX7_freedom_18 : decode cX7_freedom 18 = .ok (.iload_n 1, 1) := by decide +kernel
theorem dX7_freedom_19 : decode cX7_freedom 19 = .ok (.invokevirtual 228, 3) := by decide +kernel
theorem dX7_freedom_22 : decode cX7_freedom 22 = .ok (.invokevirtual 231, 3) := by decide +kernel
theorem dX7_freedom_25 : decode cX7_freedom 25 = .ok (.goto 4, 3) := by decide +kernel
theorem dX7_freedom_28 : decode cX7_freedom 28 = .ok (.lconst 0, 1) := by decide +kernel
theorem dX7_freedom_29 : decode cX7_freedom 29 = .ok (.lstore_n 3, 1) := by decide +kernel
theorem dX7_freedom_30 : decode cX7_freedom 30 = .ok (.aload_n 0, 1) := by decide +kernel
theorem dX7_freedom_31 : decode cX7_freedom 31 = .ok (.iload_n 2, 1) := by decide +kernel
theorem dX7_freedom_32 : decode cX7_freedom 32 = .ok (.i2l, 1) := by decide +kernel
theorem dX7_freedom_33 : decode cX7_freedom 33 = .ok (.lconst 0, 1) := by decide +kernel
theorem dX7_freedom_34 : decode cX7_freedom 34 = .ok (.lload_n 3, 1) := by decide +kernel
theorem dX7_freedom_35 : decode cX7_freedom 35 = .ok (.invokestatic 57, 3) := by decide +kernel
theorem dX7_freedom_38 : decode cX7_freedom 38 = .ok (.iconst 1, 1) := by decide +kernel
theorem dX7_freedom_39 : decode cX7_freedom 39 = .ok (.isub, 1) := by decide +kernel
theorem dX7_freedom_40 : decode cX7_freedom 40 = .ok (.i2l, 1) := by decide +kernel
theorem dX7_freedom_41 : decode cX7_freedom 41 = .ok (.invokestatic 61, 3) := by decide +kernel
theorem dX7_freedom_44 : decode cX7_freedom 44 = .ok (.ifCond .eq 7, 3) := by decide +kernel
theorem dX7_freedom_47 : decode cX7_freedom 47 = .ok (.iconst 0, 1) := by decide +kernel
theorem dX7_freedom_48 : decode cX7_freedom 48 = .ok (.goto 4, 3) := by decide +kernel
theorem dX7_freedom_51 : decode cX7_freedom 51 = .ok (.iconst 1, 1) := by decide +kernel
theorem dX7_freedom_52 : decode cX7_freedom 52 = .ok (.putfield 51, 3) := by decide +kernel
theorem dX7_freedom_55 : decode cX7_freedom 55 = .ok (.aload_n 0, 1) := by decide +kernel
theorem dX7_freedom_56 : decode cX7_freedom 56 = .ok (.getfield 51, 3) := by decide +kernel
theorem dX7_freedom_59 : decode cX7_freedom 59 = .ok (.ifCond .le 5, 3) := by decide +kernel
theorem dX7_freedom_62 : decode cX7_freedom 62 = .ok (.iconst 0, 1) := by decide +kernel
theorem dX7_freedom_63 : decode cX7_freedom 63 = .ok (.ireturn, 1) := by decide +kernel
theorem dX7_freedom_64 : decode cX7_freedom 64 = .ok (.iconst 0, 1) := by decide +kernel
theorem dX7_freedom_65 : decode cX7_freedom 65 = .ok (.istore 5, 2) := by decide +kernel
theorem dX7_freedom_67 : decode cX7_freedom 67 = .ok (.iload 5, 2) := by decide +kernel
theorem dX7_freedom_69 : decode cX7_freedom 69 = .ok (.iload_n 2, 1) := by decide +kernel
theorem dX7_freedom_70 : decode cX7_freedom 70 = .ok (.if_icmp .ge 15, 3) := by decide +kernel
theorem dX7_freedom_73 : decode cX7_freedom 73 = .ok (.lload_n 3, 1) := by decide +kernel
theorem dX7_freedom_74 : decode cX7_freedom 74 = .ok (.lload_n 3, 1) := by decide +kernel
theorem dX7_freedom_75 : decode cX7_freedom 75 = .ok (.lconst 1, 1) := by decide +kernel
theorem dX7_freedom_76 : decode cX7_freedom 76 = .ok (.lsub, 1) := by decide +kernel
theorem dX7_freedom_77 : decode cX7_freedom 77 = .ok (.land, 1) := by decide +kernel
theorem dX7_freedom_78 : decode cX7_freedom 78 = .ok (.lstore_n 3, 1) := by decide +kernel
theorem dX7_freedom_79 : decode cX7_freedom 79 = .ok (.iinc 5 1, 3) := by decide +kernel
theorem dX7_freedom_82 : decode cX7_freedom 82 = .ok (.goto (-15), 3) := by decide +kernel
theorem dX7_freedom_85 : decode cX7_freedom 85 = .ok (.lload_n 3, 1) := by decide +kernel
theorem dX7_freedom_86 : decode cX7_freedom 86 = .ok (.invokestatic 234, 3) := by decide +kernel
theorem dX7_freedom_89 : decode cX7_freedom 89 = .ok (.ireturn, 1) := by decide +kernel
theorem dX7_chains_0 : decode cX7_chains 0 = .ok (.aload_n 0, 1) := by decide +kernel
theorem dX7_chains_1 : decode cX7_chains 1 = .ok (.iload_n 1, 1) := by decide +kernel
theorem dX7_chains_2 : decode cX7_chains 2 = .ok (.invokestatic 241, 3) := by decide +kernel
theorem dX7_chains_5 : decode cX7_chains 5 = .ok (.ifCond .eq 7, 3) := by decide +kernel
theorem dX7_chains_8 : decode cX7_chains 8 = .ok (.iconst 0, 1) := by decide +kernel
theorem dX7_chains_9 : decode cX7_chains 9 = .ok (.goto 4, 3) := by decide +kernel
theorem dX7_chains_12 : decode cX7_chains 12 = .ok (.iconst 1, 1) := by decide +kernel
theorem dX7_chains_13 : decode cX7_chains 13 = .ok (.putfield 51, 3) := by decide +kernel
theorem dX7_chains_16 : decode cX7_chains 16 = .ok (.iconst 0, 1) := by decide +kernel
theorem dX7_chains_17 : decode cX7_chains 17 = .ok (.istore_n 3, 1) := by decide +kernel
theorem dX7_chains_18 : decode cX7_chains 18 = .ok (.iconst 0, 1) := by decide +kernel
theorem dX7_chains_19 : decode cX7_chains 19 = .ok (.istore 4, 2) := by decide +kernel
theorem dX7_chains_21 : decode cX7_chains 21 = .ok (.iload 4, 2) := by decide +kernel
theorem dX7_chains_23 : decode cX7_chains 23 = .ok (.aload_n 0, 1) := by decide +kernel
theorem dX7_chains_24 : decode cX7_chains 24 = .ok (.invokevirtual 180, 3) := by decide +kernel
theorem dX7_chains_27 : decode cX7_chains 27 = .ok (.if_icmp .ge 68, 3) := by decide +kernel
theorem dX7_chains_30 : decode cX7_chains 30 = .ok (.aload_n 0, 1) := by decide +kernel
theorem dX7_chains_31 : decode cX7_chains 31 = .ok (.getfield 51, 3) := by decide +kernel
theorem dX7_chains_34 : decode cX7_chains 34 = .ok (.ifCond .ne 61, 3) := by decide +kernel
theorem dX7_chains_37 : decode cX7_chains 37 = .ok (.aload_n 0, 1) := by decide +kernel
theorem dX7_chains_38 : decode cX7_chains 38 = .ok (.iload 4, 2) := by decide +kernel
theorem dX7_chains_40 : decode cX7_chains 40 = .ok (.invokevirtual 203, 3) := by decide +kernel
theorem dX7_chains_43 : decode cX7_chains 43 = .ok (.iload_n 1, 1) := by decide +kernel
theorem dX7_chains_44 : decode cX7_chains 44 = .ok (.if_icmp .ne 45, 3) := by decide +kernel
theorem dX7_chains_47 : decode cX7_chains 47 = .ok (.aload_n 0, 1) := by decide +kernel
theorem dX7_chains_48 : decode cX7_chains 48 = .ok (.iload 4, 2) := by decide +kernel
theorem dX7_chains_50 : decode cX7_chains 50 = .ok (.invokevirtual 228, 3) := by decide +kernel
theorem dX7_chains_53 : decode cX7_chains 53 = .ok (.invokestatic 234, 3) := by decide +kernel
theorem dX7_chains_56 : decode cX7_chains 56 = .ok (.iload 4, 2) := by decide +kernel
theorem dX7_chains_58 : decode cX7_chains 58 = .ok (.if_icmp .eq 6, 3) := by decide +kernel
theorem dX7_chains_61 : decode cX7_chains 61 = .ok (.goto 28, 3) := by decide +kernel
theorem dX7_chains_64 : decode cX7_chains 64 = .ok (.iload_n 3, 1) := by decide +kernel
theorem dX7_chains_65 : decode cX7_chains 65 = .ok (.aload_n 0, 1) := by decide +kernel
theorem dX7_chains_66 : decode cX7_chains 66 = .ok (.aload_n 0, 1) := by decide +kernel
theorem dX7_chains_67 : decode cX7_chains 67 = .ok (.iload 4, 2) := by decide +kernel
theorem dX7_chains_69 : decode cX7_chains 69 = .ok (.invokevirtual 228, 3) := by decide +kernel
theorem dX7_chains_72 : decode cX7_chains 72 = .ok (.invokevirtual 231, 3) := by decide +kernel
theorem dX7_chains_75 : decode cX7_chains 75 = .ok (.invokestatic 57, 3) := by decide +kernel
theorem dX7_chains_78 : decode cX7_chains 78 = .ok (.iload_n 2, 1) := by decide +kernel
theorem dX7_chains_79 : decode cX7_chains 79 = .ok (.if_icmp .gt 7, 3) := by decide +kernel
theorem dX7_chains_82 : decode cX7_chains 82 = .ok (.iconst 1, 1) := by decide +kernel
theorem dX7_chains_83 : decode cX7_chains 83 = .ok (.goto 4, 3) := by decide +kernel
theorem dX7_chains_86 : decode cX7_chains 86 = .ok (.iconst 0, 1) := by decide +kernel
theorem dX7_chains_87 : decode cX7_chains 87 = .ok (.iadd, 1) := by decide +kernel
theorem dX7_chains_88 : decode cX7_chains 88 = .ok (.istore_n 3, 1) := by decide +kernel
theorem dX7_chains_89 : decode cX7_chains 89 = .ok (.iinc 4 1, 3) := by decide +kernel
theorem dX7_chains_92 : decode cX7_chains 92 = .ok (.goto (-71), 3) := by decide +kernel
theorem dX7_chains_95 : decode cX7_chains 95 = .ok (.iload_n 3, 1) := by decide +kernel
theorem dX7_chains_96 : decode cX7_chains 96 = .ok (.ireturn, 1) := by decide +kernel
theorem dX7_isWeaker_0 : decode cX7_isWeaker 0 = .ok (.aload_n 0, 1) := by decide +kernel
theorem dX7_isWeaker_1 : decode cX7_isWeaker 1 = .ok (.lload_n 1, 1) := by decide +kernel
theorem dX7_isWeaker_2 : decode cX7_isWeaker 2 = .ok (.invokevirtual 231, 3) := by decide +kernel
theorem dX7_isWeaker_5 : decode cX7_isWeaker 5 = .ok (.invokestatic 57, 3) := by decide +kernel
theorem dX7_isWeaker_8 : decode cX7_isWeaker 8 = .ok (.aload_n 0, 1) := by decide +kernel
theorem dX7_isWeaker_9 : decode cX7_isWeaker 9 = .ok (.lload_n 3, 1) := by decide +kernel
theorem dX7_isWeaker_10 : decode cX7_isWeaker 10 = .ok (.invokevirtual 231, 3) := by decide +kernel
theorem dX7_isWeaker_13 : decode cX7_isWeaker 13 = .ok (.invokestatic 57, 3) := by decide +kernel
theorem dX7_isWeaker_16 : decode cX7_isWeaker 16 = .ok (.isub, 1) := by decide +kernel
theorem dX7_isWeaker_17 : decode cX7_isWeaker 17 = .ok (.istore 5, 2) := by decide +kernel
theorem dX7_isWeaker_19 : decode cX7_isWeaker 19 = .ok (.iload 5, 2) := by decide +kernel
theorem dX7_isWeaker_21 : decode cX7_isWeaker 21 = .ok (.ifCond .lt 19, 3) := by decide +kernel
theorem dX7_isWeaker_24 : decode cX7_isWeaker 24 = .ok (.iload 5, 2) := by decide +kernel
theorem dX7_isWeaker_26 : decode cX7_isWeaker 26 = .ok (.ifCond .ne 18, 3) := by decide +kernel
theorem dX7_isWeaker_29 : decode cX7_isWeaker 29 = .ok (.lload_n 1, 1) := by decide +kernel
theorem dX7_isWeaker_30 : decode cX7_isWeaker 30 = .ok (.invokestatic 57, 3) := by decide +kernel
theorem dX7_isWeaker_33 : decode cX7_isWeaker 33 = .ok (.lload_n 3, 1) := by decide +kernel
theorem dX7_isWeaker_34 : decode cX7_isWeaker 34 = .ok (.invokestatic 57, 3) := by decide +kernel
theorem dX7_isWeaker_37 : decode cX7_isWeaker 37 = .ok (.if_icmp .le 7, 3) := by decide +kernel
theorem dX7_isWeaker_40 : decode cX7_isWeaker 40 = .ok (.iconst 1, 1) := by decide +kernel
theorem dX7_isWeaker_41 : decode cX7_isWeaker 41 = .ok (.goto 4, 3) := by decide +kernel
theorem dX7_isWeaker_44 : decode cX7_isWeaker 44 = .ok (.iconst 0, 1) := by decide +kernel
theorem dX7_isWeaker_45 : decode cX7_isWeaker 45 = .ok (.ireturn, 1) := by decide +kernel
theorem dX7_weakest_0 : decode cX7_weakest 0 = .ok (.aload_n 0, 1) := by decide +kernel
theorem dX7_weakest_1 : decode cX7_weakest 1 = .ok (.iload_n 1, 1) := by decide +kernel
theorem dX7_weakest_2 : decode cX7_weakest 2 = .ok (.invokestatic 241, 3) := by decide +kernel
theorem dX7_weakest_5 : decode cX7_weakest 5 = .ok (.ifCond .ne 7, 3) := by decide +kernel
theorem dX7_weakest_8 : decode cX7_weakest 8 = .ok (.iconst 1, 1) := by decide +kernel
theorem dX7_weakest_9 : decode cX7_weakest 9 = .ok (.goto 18, 3) := by decide +kernel
theorem dX7_weakest_12 : decode cX7_weakest 12 = .ok (.aload_n 0, 1) := by decide +kernel
theorem dX7_weakest_13 : decode cX7_weakest 13 = .ok (.iload_n 1, 1) := by decide +kernel
theorem dX7_weakest_14 : decode cX7_weakest 14 = .ok (.invokevirtual 206, 3) := by decide +kernel
theorem dX7_weakest_17 : decode cX7_weakest 17 = .ok (.lconst 0, 1) := by decide +kernel
theorem dX7_weakest_18 : decode cX7_weakest 18 = .ok (.lcmp, 1) := by decide +kernel
theorem dX7_weakest_19 : decode cX7_weakest 19 = .ok (.ifCond .ne 7, 3) := by decide +kernel
theorem dX7_weakest_22 : decode cX7_weakest 22 = .ok (.iconst 2, 1) := by decide +kernel
theorem dX7_weakest_23 : decode cX7_weakest 23 = .ok (.goto 4, 3) := by decide +kernel
theorem dX7_weakest_26 : decode cX7_weakest 26 = .ok (.iconst 0, 1) := by decide +kernel
theorem dX7_weakest_27 : decode cX7_weakest 27 = .ok (.putfield 51, 3) := by decide +kernel
theorem dX7_weakest_30 : decode cX7_weakest 30 = .ok (.aload_n 0, 1) := by decide +kernel
theorem dX7_weakest_31 : decode cX7_weakest 31 = .ok (.getfield 51, 3) := by decide +kernel
theorem dX7_weakest_34 : decode cX7_weakest 34 = .ok (.ifCond .le 5, 3) := by decide +kernel
theorem dX7_weakest_37 : decode cX7_weakest 37 = .ok (.iconst 0, 1) := by decide +kernel
theorem dX7_weakest_38 : decode cX7_weakest 38 = .ok (.ireturn, 1) := by decide +kernel
theorem dX7_weakest_39 : decode cX7_weakest 39 = .ok (.aload_n 0, 1) := by decide +kernel
theorem dX7_weakest_40 : decode cX7_weakest 40 = .ok (.iload_n 1, 1) := by decide +kernel
theorem dX7_weakest_41 : decode cX7_weakest 41 = .ok (.invokevirtual 206, 3) := by decide +kernel
theorem dX7_weakest_44 : decode cX7_weakest 44 = .ok (.invokestatic 234, 3) := by decide +kernel
theorem dX7_weakest_47 : decode cX7_weakest 47 = .ok (.istore_n 2, 1) := by decide +kernel
theorem dX7_weakest_48 : decode cX7_weakest 48 = .ok (.iload_n 2, 1) := by decide +kernel
theorem dX7_weakest_49 : decode cX7_weakest 49 = .ok (.istore_n 3, 1) := by decide +kernel
theorem dX7_weakest_50 : decode cX7_weakest 50 = .ok (.iload_n 3, 1) := by decide +kernel
theorem dX7_weakest_51 : decode cX7_weakest 51 = .ok (.aload_n 0, 1) := by decide +kernel
theorem dX7_weakest_52 : decode cX7_weakest 52 = .ok (.invokevirtual 180, 3) := by decide +kernel
theorem dX7_weakest_55 : decode cX7_weakest 55 = .ok (.if_icmp .ge 37, 3) := by decide +kernel
theorem dX7_weakest_58 : decode cX7_weakest 58 = .ok (.aload_n 0, 1) := by decide +kernel
theorem dX7_weakest_59 : decode cX7_weakest 59 = .ok (.iload_n 3, 1) := by decide +kernel
theorem dX7_weakest_60 : decode cX7_weakest 60 = .ok (.invokevirtual 203, 3) := by decide +kernel
theorem dX7_weakest_63 : decode cX7_weakest 63 = .ok (.iload_n 1, 1) := by decide +kernel
theorem dX7_weakest_64 : decode cX7_weakest 64 = .ok (.if_icmp .ne 22, 3) := by decide +kernel
theorem dX7_weakest_67 : decode cX7_weakest 67 = .ok (.aload_n 0, 1) := by decide +kernel
theorem dX7_weakest_68 : decode cX7_weakest 68 = .ok (.aload_n 0, 1) := by decide +kernel
theorem dX7_weakest_69 : decode cX7_weakest 69 = .ok (.iload_n 3, 1) := by decide +kernel
theorem dX7_weakest_70 : decode cX7_weakest 70 = .ok (.invokevirtual 228, 3) := by decide +kernel
theorem dX7_weakest_73 : decode cX7_weakest 73 = .ok (.aload_n 0, 1) := by decide +kernel
theorem dX7_weakest_74 : decode cX7_weakest 74 = .ok (.iload_n 2, 1) := by decide +kernel
theorem dX7_weakest_75 : decode cX7_weakest 75 = .ok (.invokevirtual 228, 3) := by decide +kernel
theorem dX7_weakest_78 : decode cX7_weakest 78 = .ok (.invokevirtual 244, 3) := by decide +kernel
theorem dX7_weakest_81 : decode cX7_weakest 81 = .ok (.ifCond .eq 5, 3) := by decide +kernel
theorem dX7_weakest_84 : decode cX7_weakest 84 = .ok (.iload_n 3, 1) := by decide +kernel
theorem dX7_weakest_85 : decode cX7_weakest 85 = .ok (.istore_n 2, 1) := by decide +kernel
theorem dX7_weakest_86 : decode cX7_weakest 86 = .ok (.iinc 3 1, 3) := by decide +kernel
theorem dX7_weakest_89 : decode cX7_weakest 89 = .ok (.goto (-39), 3) := by decide +kernel
theorem dX7_weakest_92 : decode cX7_weakest 92 = .ok (.iload_n 2, 1) := by decide +kernel
theorem dX7_weakest_93 : decode cX7_weakest 93 = .ok (.ireturn, 1) := by decide +kernel
theorem dX7_tries_0 : decode cX7_tries 0 = .ok (.aload_n 0, 1) := by decide +kernel
theorem dX7_tries_1 : decode cX7_tries 1 = .ok (.lload_n 1, 1) := by decide +kernel
theorem dX7_tries_2 : decode cX7_tries 2 = .ok (.lconst 1, 1) := by decide +kernel
theorem dX7_tries_3 : decode cX7_tries 3 = .ok (.iload 5, 2) := by decide +kernel
theorem dX7_tries_5 : decode cX7_tries 5 = .ok (.lshl, 1) := by decide +kernel
theorem dX7_tries_6 : decode cX7_tries 6 = .ok (.lor, 1) := by decide +kernel
theorem dX7_tries_7 : decode cX7_tries 7 = .ok (.putfield 248, 3) := by decide +kernel
theorem dX7_tries_10 : decode cX7_tries 10 = .ok (.aload_n 0, 1) := by decide +kernel
theorem dX7_tries_11 : decode cX7_tries 11 = .ok (.lconst 0, 1) := by decide +kernel
theorem dX7_tries_12 : decode cX7_tries 12 = .ok (.putfield 252, 3) := by decide +kernel
theorem dX7_tries_15 : decode cX7_tries 15 = .ok (.aload_n 0, 1) := by decide +kernel
theorem dX7_tries_16 : decode cX7_tries 16 = .ok (.invokevirtual 199, 3) := by decide +kernel
theorem dX7_tries_19 : decode cX7_tries 19 = .ok (.lstore 6, 2) := by decide +kernel
theorem dX7_tries_21 : decode cX7_tries 21 = .ok (.iconst 0, 1) := by decide +kernel
theorem dX7_tries_22 : decode cX7_tries 22 = .ok (.istore 8, 2) := by decide +kernel
theorem dX7_tries_24 : decode cX7_tries 24 = .ok (.iload 8, 2) := by decide +kernel
theorem dX7_tries_26 : decode cX7_tries 26 = .ok (.iconst 4, 1) := by decide +kernel
theorem dX7_tries_27 : decode cX7_tries 27 = .ok (.if_icmp .ge 85, 3) := by decide +kernel
theorem dX7_tries_30 : decode cX7_tries 30 = .ok (.aload_n 0, 1) := by decide +kernel
theorem dX7_tries_31 : decode cX7_tries 31 = .ok (.getfield 7, 3) := by decide +kernel
theorem dX7_tries_34 : decode cX7_tries 34 = .ok (.iload 5, 2) := by decide +kernel
theorem dX7_tries_36 : decode cX7_tries 36 = .ok (.iload 8, 2) := by decide +kernel
theorem dX7_tries_38 : decode cX7_tries 38 = .ok (.invokestatic 187, 3) := by decide +kernel
theorem dX7_tries_41 : decode cX7_tries 41 = .ok (.istore 9, 2) := by decide +kernel
theorem dX7_tries_43 : decode cX7_tries 43 = .ok (.iload 9, 2) := by decide +kernel
theorem dX7_tries_45 : decode cX7_tries 45 = .ok (.iconst (-1), 1) := by decide +kernel
theorem dX7_tries_46 : decode cX7_tries 46 = .ok (.if_icmp .eq 60, 3) := by decide +kernel
theorem dX7_tries_49 : decode cX7_tries 49 = .ok (.lload_n 3, 1) := by decide +kernel
theorem dX7_tries_50 : decode cX7_tries 50 = .ok (.iload 9, 2) := by decide +kernel
theorem dX7_tries_52 : decode cX7_tries 52 = .ok (.invokestatic 183, 3) := by decide +kernel
theorem dX7_tries_55 : decode cX7_tries 55 = .ok (.ifCond .ne 6, 3) := by decide +kernel
theorem dX7_tries_58 : decode cX7_tries 58 = .ok (.goto 48, 3) := by decide +kernel
theorem dX7_tries_61 : decode cX7_tries 61 = .ok (.aload_n 0, 1) := by decide +kernel
theorem dX7_tries_62 : decode cX7_tries 62 = .ok (.lload_n 3, 1) := by decide +kernel
theorem dX7_tries_63 : decode cX7_tries 63 = .ok (.iload 9, 2) := by decide +kernel
theorem dX7_tries_65 : decode cX7_tries 65 = .ok (.invokevirtual 210, 3) := by decide +kernel
theorem dX7_tries_68 : decode cX7_tries 68 = .ok (.lstore 10, 2) := by decide +kernel
theorem dX7_tries_70 : decode cX7_tries 70 = .ok (.aload_n 0, 1) := by decide +kernel
theorem dX7_tries_71 : decode cX7_tries 71 = .ok (.lload 10, 2) := by decide +kernel
theorem dX7_tries_73 : decode cX7_tries 73 = .ok (.invokevirtual 214, 3) := by decide +kernel
theorem dX7_tries_76 : decode cX7_tries 76 = .ok (.lload 6, 2) := by decide +kernel
theorem dX7_tries_78 : decode cX7_tries 78 = .ok (.land, 1) := by decide +kernel
theorem dX7_tries_79 : decode cX7_tries 79 = .ok (.aload_n 0, 1) := by decide +kernel
theorem dX7_tries_80 : decode cX7_tries 80 = .ok (.getfield 248, 3) := by decide +kernel
theorem dX7_tries_83 : decode cX7_tries 83 = .ok (.lload_n 3, 1) := by decide +kernel
theorem dX7_tries_84 : decode cX7_tries 84 = .ok (.lor, 1) := by decide +kernel
theorem dX7_tries_85 : decode cX7_tries 85 = .ok (.ldc2_w 49, 3) := by decide +kernel
theorem dX7_tries_88 : decode cX7_tries 88 = .ok (.lxor, 1) := by decide +kernel
theorem dX7_tries_89 : decode cX7_tries 89 = .ok (.land, 1) := by decide +kernel
theorem dX7_tries_90 : decode cX7_tries 90 = .ok (.lconst 0, 1) := by decide +kernel
theorem dX7_tries_91 : decode cX7_tries 91 = .ok (.lcmp, 1) := by decide +kernel
theorem dX7_tries_92 : decode cX7_tries 92 = .ok (.ifCond .ne 14, 3) := by decide +kernel
theorem dX7_tries_95 : decode cX7_tries 95 = .ok (.aload_n 0, 1) := by decide +kernel
theorem dX7_tries_96 : decode cX7_tries 96 = .ok (.dup, 1) := by decide +kernel
theorem dX7_tries_97 : decode cX7_tries 97 = .ok (.getfield 252, 3) := by decide +kernel
theorem dX7_tries_100 : decode cX7_tries 100 = .ok (.lload 10, 2) := by decide +kernel
theorem dX7_tries_102 : decode cX7_tries 102 = .ok (.lor, 1) := by decide +kernel
theorem dX7_tries_103 : decode cX7_tries 103 = .ok (.putfield 252, 3) := by decide +kernel
theorem dX7_tries_106 : decode cX7_tries 106 = .ok (.iinc 8 1, 3) := by decide +kernel
theorem dX7_tries_109 : decode cX7_tries 109 = .ok (.goto (-85), 3) := by decide +kernel
theorem dX7_tries_112 : decode cX7_tries 112 = .ok (.aload_n 0, 1) := by decide +kernel
theorem dX7_tries_113 : decode cX7_tries 113 = .ok (.lload_n 3, 1) := by decide +kernel
theorem dX7_tries_114 : decode cX7_tries 114 = .ok (.aload_n 0, 1) := by decide +kernel
theorem dX7_tries_115 : decode cX7_tries 115 = .ok (.getfield 252, 3) := by decide +kernel
theorem dX7_tries_118 : decode cX7_tries 118 = .ok (.ldc2_w 49, 3) := by decide +kernel
theorem dX7_tries_121 : decode cX7_tries 121 = .ok (.lxor, 1) := by decide +kernel
theorem dX7_tries_122 : decode cX7_tries 122 = .ok (.land, 1) := by decide +kernel
theorem dX7_tries_123 : decode cX7_tries 123 = .ok (.putfield 255, 3) := by decide +kernel
theorem dX7_tries_126 : decode cX7_tries 126 = .ok (.aload_n 0, 1) := by decide +kernel
theorem dX7_tries_127 : decode cX7_tries 127 = .ok (.aload_n 0, 1) := by decide +kernel
theorem dX7_tries_128 : decode cX7_tries 128 = .ok (.aload_n 0, 1) := by decide +kernel
theorem dX7_tries_129 : decode cX7_tries 129 = .ok (.getfield 248, 3) := by decide +kernel
theorem dX7_tries_132 : decode cX7_tries 132 = .ok (.iload 5, 2) := by decide +kernel
theorem dX7_tries_134 : decode cX7_tries 134 = .ok (.invokevirtual 210, 3) := by decide +kernel
theorem dX7_tries_137 : decode cX7_tries 137 = .ok (.putfield 258, 3) := by decide +kernel
theorem dX7_tries_140 : decode cX7_tries 140 = .ok (.aload_n 0, 1) := by decide +kernel
theorem dX7_tries_141 : decode cX7_tries 141 = .ok (.aload_n 0, 1) := by decide +kernel
theorem dX7_tries_142 : decode cX7_tries 142 = .ok (.aload_n 0, 1) := by decide +kernel
theorem dX7_tries_143 : decode cX7_tries 143 = .ok (.getfield 258, 3) := by decide +kernel
theorem dX7_tries_146 : decode cX7_tries 146 = .ok (.invokevirtual 214, 3) := by decide +kernel
theorem dX7_tries_149 : decode cX7_tries 149 = .ok (.lload 6, 2) := by decide +kernel
theorem dX7_tries_151 : decode cX7_tries 151 = .ok (.land, 1) := by decide +kernel
theorem dX7_tries_152 : decode cX7_tries 152 = .ok (.aload_n 0, 1) := by decide +kernel
theorem dX7_tries_153 : decode cX7_tries 153 = .ok (.getfield 248, 3) := by decide +kernel
theorem dX7_tries_156 : decode cX7_tries 156 = .ok (.aload_n 0, 1) := by decide +kernel
theorem dX7_tries_157 : decode cX7_tries 157 = .ok (.getfield 255, 3) := by decide +kernel
theorem dX7_tries_160 : decode cX7_tries 160 = .ok (.lor, 1) := by decide +kernel
theorem dX7_tries_161 : decode cX7_tries 161 = .ok (.ldc2_w 49, 3) := by decide +kernel
theorem dX7_tries_164 : decode cX7_tries 164 = .ok (.lxor, 1) := by decide +kernel
theorem dX7_tries_165 : decode cX7_tries 165 = .ok (.land, 1) := by decide +kernel
theorem dX7_tries_166 : decode cX7_tries 166 = .ok (.putfield 261, 3) := by decide +kernel
theorem dX7_tries_169 : decode cX7_tries 169 = .ok (.aload_n 0, 1) := by decide +kernel
theorem dX7_tries_170 : decode cX7_tries 170 = .ok (.getfield 261, 3) := by decide +kernel
theorem dX7_tries_173 : decode cX7_tries 173 = .ok (.lconst 0, 1) := by decide +kernel
theorem dX7_tries_174 : decode cX7_tries 174 = .ok (.lcmp, 1) := by decide +kernel
theorem dX7_tries_175 : decode cX7_tries 175 = .ok (.ifCond .eq 7, 3) := by decide +kernel
theorem dX7_tries_178 : decode cX7_tries 178 = .ok (.iconst 1, 1) := by decide +kernel
theorem dX7_tries_179 : decode cX7_tries 179 = .ok (.goto 4, 3) := by decide +kernel
theorem dX7_tries_182 : decode cX7_tries 182 = .ok (.iconst 0, 1) := by decide +kernel
theorem dX7_tries_183 : decode cX7_tries 183 = .ok (.ireturn, 1) := by decide +kernel
theorem dX7_triesBy_0 : decode cX7_triesBy 0 = .ok (.aload_n 0, 1) := by decide +kernel
theorem dX7_triesBy_1 : decode cX7_triesBy 1 = .ok (.aload_n 0, 1) := by decide +kernel
theorem dX7_triesBy_2 : decode cX7_triesBy 2 = .ok (.iload_n 2, 1) := by decide +kernel
theorem dX7_triesBy_3 : decode cX7_triesBy 3 = .ok (.invokevirtual 206, 3) := by decide +kernel
theorem dX7_triesBy_6 : decode cX7_triesBy 6 = .ok (.aload_n 0, 1) := by decide +kernel
theorem dX7_triesBy_7 : decode cX7_triesBy 7 = .ok (.iconst 3, 1) := by decide +kernel
theorem dX7_triesBy_8 : decode cX7_triesBy 8 = .ok (.iload_n 2, 1) := by decide +kernel
theorem dX7_triesBy_9 : decode cX7_triesBy 9 = .ok (.isub, 1) := by decide +kernel
theorem dX7_triesBy_10 : decode cX7_triesBy 10 = .ok (.invokevirtual 206, 3) := by decide +kernel
theorem dX7_triesBy_13 : decode cX7_triesBy 13 = .ok (.iload_n 1, 1) := by decide +kernel
theorem dX7_triesBy_14 : decode cX7_triesBy 14 = .ok (.invokevirtual 264, 3) := by decide +kernel
theorem dX7_triesBy_17 : decode cX7_triesBy 17 = .ok (.ireturn, 1) := by decide +kernel
theorem dX7_reasonFor_0 : decode cX7_reasonFor 0 = .ok (.aload_n 0, 1) := by decide +kernel
theorem dX7_reasonFor_1 : decode cX7_reasonFor 1 = .ok (.getfield 7, 3) := by decide +kernel
theorem dX7_reasonFor_4 : decode cX7_reasonFor 4 = .ok (.iconst 4, 1) := by decide +kernel
theorem dX7_reasonFor_5 : decode cX7_reasonFor 5 = .ok (.laload, 1) := by decide +kernel
theorem dX7_reasonFor_6 : decode cX7_reasonFor 6 = .ok (.ldc2_w 79, 3) := by decide +kernel
theorem dX7_reasonFor_9 : decode cX7_reasonFor 9 = .ok (.lcmp, 1) := by decide +kernel
theorem dX7_reasonFor_10 : decode cX7_reasonFor 10 = .ok (.ifCond .ne 5, 3) := by decide +kernel
theorem dX7_reasonFor_13 : decode cX7_reasonFor 13 = .ok (.iconst 1, 1) := by decide +kernel
theorem dX7_reasonFor_14 : decode cX7_reasonFor 14 = .ok (.ireturn, 1) := by decide +kernel
theorem dX7_reasonFor_15 : decode cX7_reasonFor 15 = .ok (.aload_n 0, 1) := by decide +kernel
theorem dX7_reasonFor_16 : decode cX7_reasonFor 16 = .ok (.iload_n 1, 1) := by decide +kernel
theorem dX7_reasonFor_17 : decode cX7_reasonFor 17 = .ok (.invokevirtual 203, 3) := by decide +kernel
theorem dX7_reasonFor_20 : decode cX7_reasonFor 20 = .ok (.ifCond .le 5, 3) := by decide +kernel
theorem dX7_reasonFor_23 : decode cX7_reasonFor 23 = .ok (.iconst 2, 1) := by decide +kernel
theorem dX7_reasonFor_24 : decode cX7_reasonFor 24 = .ok (.ireturn, 1) := by decide +kernel
theorem dX7_reasonFor_25 : decode cX7_reasonFor 25 = .ok (.aload_n 0, 1) := by decide +kernel
theorem dX7_reasonFor_26 : decode cX7_reasonFor 26 = .ok (.getfield 7, 3) := by decide +kernel
theorem dX7_reasonFor_29 : decode cX7_reasonFor 29 = .ok (.bipush 7, 2) := by decide +kernel
theorem dX7_reasonFor_31 : decode cX7_reasonFor 31 = .ok (.laload, 1) := by decide +kernel
theorem dX7_reasonFor_32 : decode cX7_reasonFor 32 = .ok (.iload_n 1, 1) := by decide +kernel
theorem dX7_reasonFor_33 : decode cX7_reasonFor 33 = .ok (.i2l, 1) := by decide +kernel
theorem dX7_reasonFor_34 : decode cX7_reasonFor 34 = .ok (.lcmp, 1) := by decide +kernel
theorem dX7_reasonFor_35 : decode cX7_reasonFor 35 = .ok (.ifCond .ne 17, 3) := by decide +kernel
theorem dX7_reasonFor_38 : decode cX7_reasonFor 38 = .ok (.aload_n 0, 1) := by decide +kernel
theorem dX7_reasonFor_39 : decode cX7_reasonFor 39 = .ok (.getfield 7, 3) := by decide +kernel
theorem dX7_reasonFor_42 : decode cX7_reasonFor 42 = .ok (.iconst 2, 1) := by decide +kernel
theorem dX7_reasonFor_43 : decode cX7_reasonFor 43 = .ok (.laload, 1) := by decide +kernel
theorem dX7_reasonFor_44 : decode cX7_reasonFor 44 = .ok (.iload_n 2, 1) := by decide +kernel
theorem dX7_reasonFor_45 : decode cX7_reasonFor 45 = .ok (.i2l, 1) := by decide +kernel
theorem dX7_reasonFor_46 : decode cX7_reasonFor 46 = .ok (.lcmp, 1) := by decide +kernel
theorem dX7_reasonFor_47 : decode cX7_reasonFor 47 = .ok (.ifCond .ne 5, 3) := by decide +kernel
theorem dX7_reasonFor_50 : decode cX7_reasonFor 50 = .ok (.iconst 3, 1) := by decide +kernel
theorem dX7_reasonFor_51 : decode cX7_reasonFor 51 = .ok (.ireturn, 1) := by decide +kernel
theorem dX7_reasonFor_52 : decode cX7_reasonFor 52 = .ok (.aload_n 0, 1) := by decide +kernel
theorem dX7_reasonFor_53 : decode cX7_reasonFor 53 = .ok (.iload_n 1, 1) := by decide +kernel
theorem dX7_reasonFor_54 : decode cX7_reasonFor 54 = .ok (.iload_n 2, 1) := by decide +kernel
theorem dX7_reasonFor_55 : decode cX7_reasonFor 55 = .ok (.invokevirtual 268, 3) := by decide +kernel
theorem dX7_reasonFor_58 : decode cX7_reasonFor 58 = .ok (.ifCond .ne 5, 3) := by decide +kernel
theorem dX7_reasonFor_61 : decode cX7_reasonFor 61 = .ok (.iconst 4, 1) := by decide +kernel
theorem dX7_reasonFor_62 : decode cX7_reasonFor 62 = .ok (.ireturn, 1) := by decide +kernel
theorem dX7_reasonFor_63 : decode cX7_reasonFor 63 = .ok (.aload_n 0, 1) := by decide +kernel
theorem dX7_reasonFor_64 : decode cX7_reasonFor 64 = .ok (.getfield 7, 3) := by decide +kernel
theorem dX7_reasonFor_67 : decode cX7_reasonFor 67 = .ok (.bipush 8, 2) := by decide +kernel
theorem dX7_reasonFor_69 : decode cX7_reasonFor 69 = .ok (.laload, 1) := by decide +kernel
theorem dX7_reasonFor_70 : decode cX7_reasonFor 70 = .ok (.lconst 1, 1) := by decide +kernel
theorem dX7_reasonFor_71 : decode cX7_reasonFor 71 = .ok (.lcmp, 1) := by decide +kernel
theorem dX7_reasonFor_72 : decode cX7_reasonFor 72 = .ok (.ifCond .ne 45, 3) := by decide +kernel
theorem dX7_reasonFor_75 : decode cX7_reasonFor 75 = .ok (.iload_n 2, 1) := by decide +kernel
theorem dX7_reasonFor_76 : decode cX7_reasonFor 76 = .ok (.iconst 1, 1) := by decide +kernel
theorem dX7_reasonFor_77 : decode cX7_reasonFor 77 = .ok (.if_icmp .ne 21, 3) := by decide +kernel
theorem dX7_reasonFor_80 : decode cX7_reasonFor 80 = .ok (.aload_n 0, 1) := by decide +kernel
theorem dX7_reasonFor_81 : decode cX7_reasonFor 81 = .ok (.aload_n 0, 1) := by decide +kernel
theorem dX7_reasonFor_82 : decode cX7_reasonFor 82 = .ok (.getfield 248, 3) := by decide +kernel
theorem dX7_reasonFor_85 : decode cX7_reasonFor 85 = .ok (.aload_n 0, 1) := by decide +kernel
theorem dX7_reasonFor_86 : decode cX7_reasonFor 86 = .ok (.getfield 255, 3) := by decide +kernel
theorem dX7_reasonFor_89 : decode cX7_reasonFor 89 = .ok (.invokevirtual 272, 3) := by decide +kernel
theorem dX7_reasonFor_92 : decode cX7_reasonFor 92 = .ok (.ifCond .eq 25, 3) := by decide +kernel
theorem dX7_reasonFor_95 : decode cX7_reasonFor 95 = .ok (.goto 18, 3) := by decide +kernel
theorem dX7_reasonFor_98 : decode cX7_reasonFor 98 = .ok (.aload_n 0, 1) := by decide +kernel
theorem dX7_reasonFor_99 : decode cX7_reasonFor 99 = .ok (.aload_n 0, 1) := by decide +kernel
theorem dX7_reasonFor_100 : decode cX7_reasonFor 100 = .ok (.getfield 255, 3) := by decide +kernel
theorem dX7_reasonFor_103 : decode cX7_reasonFor 103 = .ok (.aload_n 0, 1) := by decide +kernel
theorem dX7_reasonFor_104 : decode cX7_reasonFor 104 = .ok (.getfield 248, 3) := by decide +kernel
theorem dX7_reasonFor_107 : decode cX7_reasonFor 107 = .ok (.invokevirtual 272, 3) := by decide +kernel
theorem dX7_reasonFor_110 : decode cX7_reasonFor 110 = .ok (.ifCond .eq 7, 3) := by decide +kernel
theorem dX7_reasonFor_113 : decode cX7_reasonFor 113 = .ok (.iconst 5, 1) := by decide +kernel
theorem dX7_reasonFor_114 : decode cX7_reasonFor 114 = .ok (.goto 4, 3) := by decide +kernel
theorem dX7_reasonFor_117 : decode cX7_reasonFor 117 = .ok (.iconst 0, 1) := by decide +kernel
theorem dX7_reasonFor_118 : decode cX7_reasonFor 118 = .ok (.ireturn, 1) := by decide +kernel
theorem dX7_reason_0 : decode cX7_reason 0 = .ok (.aload_n 0, 1) := by decide +kernel
theorem dX7_reason_1 : decode cX7_reason 1 = .ok (.aload_n 0, 1) := by decide +kernel
theorem dX7_reason_2 : decode cX7_reason 2 = .ok (.iload_n 1, 1) := by decide +kernel
theorem dX7_reason_3 : decode cX7_reason 3 = .ok (.invokevirtual 223, 3) := by decide +kernel
theorem dX7_reason_6 : decode cX7_reason 6 = .ok (.ifCond .ne 7, 3) := by decide +kernel
theorem dX7_reason_9 : decode cX7_reason 9 = .ok (.iconst 1, 1) := by decide +kernel
theorem dX7_reason_10 : decode cX7_reason 10 = .ok (.goto 15, 3) := by decide +kernel
theorem dX7_reason_13 : decode cX7_reason 13 = .ok (.iload_n 2, 1) := by decide +kernel
theorem dX7_reason_14 : decode cX7_reason 14 = .ok (.invokestatic 241, 3) := by decide +kernel
theorem dX7_reason_17 : decode cX7_reason 17 = .ok (.ifCond .eq 7, 3) := by decide +kernel
theorem dX7_reason_20 : decode cX7_reason 20 = .ok (.iconst 0, 1) := by decide +kernel
theorem dX7_reason_21 : decode cX7_reason 21 = .ok (.goto 4, 3) := by decide +kernel
theorem dX7_reason_24 : decode cX7_reason 24 = .ok (.iconst 2, 1) := by decide +kernel
theorem dX7_reason_25 : decode cX7_reason 25 = .ok (.putfield 51, 3) := by decide +kernel
theorem dX7_reason_28 : decode cX7_reason 28 = .ok (.aload_n 0, 1) := by decide +kernel
theorem dX7_reason_29 : decode cX7_reason 29 = .ok (.getfield 51, 3) := by decide +kernel
theorem dX7_reason_32 : decode cX7_reason 32 = .ok (.ifCond .le 7, 3) := by decide +kernel
theorem dX7_reason_35 : decode cX7_reason 35 = .ok (.iconst 0, 1) := by decide +kernel
theorem dX7_reason_36 : decode cX7_reason 36 = .ok (.goto 9, 3) := by decide +kernel
theorem dX7_reason_39 : decode cX7_reason 39 = .ok (.aload_n 0, 1) := by decide +kernel
theorem dX7_reason_40 : decode cX7_reason 40 = .ok (.iload_n 1, 1) := by decide +kernel
theorem dX7_reason_41 : decode cX7_reason 41 = .ok (.iload_n 2, 1) := by decide +kernel
theorem dX7_reason_42 : decode cX7_reason 42 = .ok (.invokevirtual 275, 3) := by decide +kernel
theorem dX7_reason_45 : decode cX7_reason 45 = .ok (.ireturn, 1) := by decide +kernel
theorem dX7_play_0 : decode cX7_play 0 = .ok (.aload_n 0, 1) := by decide +kernel
theorem dX7_play_1 : decode cX7_play 1 = .ok (.getfield 7, 3) := by decide +kernel
theorem dX7_play_4 : decode cX7_play 4 = .ok (.iconst 2, 1) := by decide +kernel
theorem dX7_play_5 : decode cX7_play 5 = .ok (.laload, 1) := by decide +kernel
theorem dX7_play_6 : decode cX7_play 6 = .ok (.l2i, 1) := by decide +kernel
theorem dX7_play_7 : decode cX7_play 7 = .ok (.istore_n 2, 1) := by decide +kernel
theorem dX7_play_8 : decode cX7_play 8 = .ok (.aload_n 0, 1) := by decide +kernel
theorem dX7_play_9 : decode cX7_play 9 = .ok (.aload_n 0, 1) := by decide +kernel
theorem dX7_play_10 : decode cX7_play 10 = .ok (.iload_n 1, 1) := by decide +kernel
theorem dX7_play_11 : decode cX7_play 11 = .ok (.invokevirtual 223, 3) := by decide +kernel
theorem dX7_play_14 : decode cX7_play 14 = .ok (.ifCond .ne 7, 3) := by decide +kernel
theorem dX7_play_17 : decode cX7_play 17 = .ok (.iconst 1, 1) := by decide +kernel
theorem dX7_play_18 : decode cX7_play 18 = .ok (.goto 17, 3) := by decide +kernel
theorem dX7_play_21 : decode cX7_play 21 = .ok (.aload_n 0, 1) := by decide +kernel
theorem dX7_play_22 : decode cX7_play 22 = .ok (.iload_n 1, 1) := by decide +kernel
theorem dX7_play_23 : decode cX7_play 23 = .ok (.iload_n 2, 1) := by decide +kernel
theorem dX7_play_24 : decode cX7_play 24 = .ok (.invokevirtual 275, 3) := by decide +kernel
theorem dX7_play_27 : decode cX7_play 27 = .ok (.ifCond .le 7, 3) := by decide +kernel
theorem dX7_play_30 : decode cX7_play 30 = .ok (.iconst 2, 1) := by decide +kernel
theorem dX7_play_31 : decode cX7_play 31 = .ok (.goto 4, 3) := by decide +kernel
theorem dX7_play_34 : decode cX7_play 34 = .ok (.iconst 0, 1) := by decide +kernel
theorem dX7_play_35 : decode cX7_play 35 = .ok (.putfield 51, 3) := by decide +kernel
theorem dX7_play_38 : decode cX7_play 38 = .ok (.aload_n 0, 1) := by decide +kernel
theorem dX7_play_39 : decode cX7_play 39 = .ok (.getfield 51, 3) := by decide +kernel
theorem dX7_play_42 : decode cX7_play 42 = .ok (.ifCond .le 5, 3) := by decide +kernel
theorem dX7_play_45 : decode cX7_play 45 = .ok (.iconst 0, 1) := by decide +kernel
theorem dX7_play_46 : decode cX7_play 46 = .ok (.ireturn, 1) := by decide +kernel
theorem dX7_play_47 : decode cX7_play 47 = .ok (.aload_n 0, 1) := by decide +kernel
theorem dX7_play_48 : decode cX7_play 48 = .ok (.invokevirtual 69, 3) := by decide +kernel
theorem dX7_play_51 : decode cX7_play 51 = .ok (.aload_n 0, 1) := by decide +kernel
theorem dX7_play_52 : decode cX7_play 52 = .ok (.getfield 252, 3) := by decide +kernel
theorem dX7_play_55 : decode cX7_play 55 = .ok (.invokestatic 57, 3) := by decide +kernel
theorem dX7_play_58 : decode cX7_play 58 = .ok (.istore_n 3, 1) := by decide +kernel
theorem dX7_play_59 : decode cX7_play 59 = .ok (.aload_n 0, 1) := by decide +kernel
theorem dX7_play_60 : decode cX7_play 60 = .ok (.getfield 7, 3) := by decide +kernel
theorem dX7_play_63 : decode cX7_play 63 = .ok (.bipush 11, 2) := by decide +kernel
theorem dX7_play_65 : decode cX7_play 65 = .ok (.iload_n 2, 1) := by decide +kernel
theorem dX7_play_66 : decode cX7_play 66 = .ok (.iadd, 1) := by decide +kernel
theorem dX7_play_67 : decode cX7_play 67 = .ok (.iconst 1, 1) := by decide +kernel
theorem dX7_play_68 : decode cX7_play 68 = .ok (.isub, 1) := by decide +kernel
theorem dX7_play_69 : decode cX7_play 69 = .ok (.aload_n 0, 1) := by decide +kernel
theorem dX7_play_70 : decode cX7_play 70 = .ok (.getfield 248, 3) := by decide +kernel
theorem dX7_play_73 : decode cX7_play 73 = .ok (.lastore, 1) := by decide +kernel
theorem dX7_play_74 : decode cX7_play 74 = .ok (.aload_n 0, 1) := by decide +kernel
theorem dX7_play_75 : decode cX7_play 75 = .ok (.getfield 7, 3) := by decide +kernel
theorem dX7_play_78 : decode cX7_play 78 = .ok (.bipush 13, 2) := by decide +kernel
theorem dX7_play_80 : decode cX7_play 80 = .ok (.iload_n 2, 1) := by decide +kernel
theorem dX7_play_81 : decode cX7_play 81 = .ok (.isub, 1) := by decide +kernel
theorem dX7_play_82 : decode cX7_play 82 = .ok (.aload_n 0, 1) := by decide +kernel
theorem dX7_play_83 : decode cX7_play 83 = .ok (.getfield 255, 3) := by decide +kernel
theorem dX7_play_86 : decode cX7_play 86 = .ok (.lastore, 1) := by decide +kernel
theorem dX7_play_87 : decode cX7_play 87 = .ok (.aload_n 0, 1) := by decide +kernel
theorem dX7_play_88 : decode cX7_play 88 = .ok (.getfield 7, 3) := by decide +kernel
theorem dX7_play_91 : decode cX7_play 91 = .ok (.bipush 7, 2) := by decide +kernel
theorem dX7_play_93 : decode cX7_play 93 = .ok (.iload_n 2, 1) := by decide +kernel
theorem dX7_play_94 : decode cX7_play 94 = .ok (.isub, 1) := by decide +kernel
theorem dX7_play_95 : decode cX7_play 95 = .ok (.dup2, 1) := by decide +kernel
theorem dX7_play_96 : decode cX7_play 96 = .ok (.laload, 1) := by decide +kernel
theorem dX7_play_97 : decode cX7_play 97 = .ok (.iload_n 3, 1) := by decide +kernel
theorem dX7_play_98 : decode cX7_play 98 = .ok (.i2l, 1) := by decide +kernel
theorem dX7_play_99 : decode cX7_play 99 = .ok (.ladd, 1) := by decide +kernel
theorem dX7_play_100 : decode cX7_play 100 = .ok (.lastore, 1) := by decide +kernel
theorem dX7_play_101 : decode cX7_play 101 = .ok (.aload_n 0, 1) := by decide +kernel
theorem dX7_play_102 : decode cX7_play 102 = .ok (.getfield 7, 3) := by decide +kernel
theorem dX7_play_105 : decode cX7_play 105 = .ok (.bipush 7, 2) := by decide +kernel
theorem dX7_play_107 : decode cX7_play 107 = .ok (.iload_n 3, 1) := by decide +kernel
theorem dX7_play_108 : decode cX7_play 108 = .ok (.iconst 1, 1) := by decide +kernel
theorem dX7_play_109 : decode cX7_play 109 = .ok (.if_icmp .ne 36, 3) := by decide +kernel
theorem dX7_play_112 : decode cX7_play 112 = .ok (.aload_n 0, 1) := by decide +kernel
theorem dX7_play_113 : decode cX7_play 113 = .ok (.getfield 258, 3) := by decide +kernel
theorem dX7_play_116 : decode cX7_play 116 = .ok (.invokestatic 57, 3) := by decide +kernel
theorem dX7_play_119 : decode cX7_play 119 = .ok (.iconst 1, 1) := by decide +kernel
theorem dX7_play_120 : decode cX7_play 120 = .ok (.if_icmp .ne 25, 3) := by decide +kernel
theorem dX7_play_123 : decode cX7_play 123 = .ok (.aload_n 0, 1) := by decide +kernel
theorem dX7_play_124 : decode cX7_play 124 = .ok (.getfield 261, 3) := by decide +kernel
theorem dX7_play_127 : decode cX7_play 127 = .ok (.invokestatic 57, 3) := by decide +kernel
theorem dX7_play_130 : decode cX7_play 130 = .ok (.iconst 1, 1) := by decide +kernel
theorem dX7_play_131 : decode cX7_play 131 = .ok (.if_icmp .ne 14, 3) := by decide +kernel
theorem dX7_play_134 : decode cX7_play 134 = .ok (.aload_n 0, 1) := by decide +kernel
theorem dX7_play_135 : decode cX7_play 135 = .ok (.getfield 252, 3) := by decide +kernel
theorem dX7_play_138 : decode cX7_play 138 = .ok (.invokestatic 234, 3) := by decide +kernel
theorem dX7_play_141 : decode cX7_play 141 = .ok (.i2l, 1) := by decide +kernel
theorem dX7_play_142 : decode cX7_play 142 = .ok (.goto 6, 3) := by decide +kernel
theorem dX7_play_145 : decode cX7_play 145 = .ok (.ldc2_w 49, 3) := by decide +kernel
theorem dX7_play_148 : decode cX7_play 148 = .ok (.lastore, 1) := by decide +kernel
theorem dX7_play_149 : decode cX7_play 149 = .ok (.aload_n 0, 1) := by decide +kernel
theorem dX7_play_150 : decode cX7_play 150 = .ok (.getfield 7, 3) := by decide +kernel
theorem dX7_play_153 : decode cX7_play 153 = .ok (.iconst 2, 1) := by decide +kernel
theorem dX7_play_154 : decode cX7_play 154 = .ok (.iconst 3, 1) := by decide +kernel
theorem dX7_play_155 : decode cX7_play 155 = .ok (.iload_n 2, 1) := by decide +kernel
theorem dX7_play_156 : decode cX7_play 156 = .ok (.isub, 1) := by decide +kernel
theorem dX7_play_157 : decode cX7_play 157 = .ok (.i2l, 1) := by decide +kernel
theorem dX7_play_158 : decode cX7_play 158 = .ok (.lastore, 1) := by decide +kernel
theorem dX7_play_159 : decode cX7_play 159 = .ok (.aload_n 0, 1) := by decide +kernel
theorem dX7_play_160 : decode cX7_play 160 = .ok (.getfield 7, 3) := by decide +kernel
theorem dX7_play_163 : decode cX7_play 163 = .ok (.iconst 3, 1) := by decide +kernel
theorem dX7_play_164 : decode cX7_play 164 = .ok (.dup2, 1) := by decide +kernel
theorem dX7_play_165 : decode cX7_play 165 = .ok (.laload, 1) := by decide +kernel
theorem dX7_play_166 : decode cX7_play 166 = .ok (.lconst 1, 1) := by decide +kernel
theorem dX7_play_167 : decode cX7_play 167 = .ok (.ladd, 1) := by decide +kernel
theorem dX7_play_168 : decode cX7_play 168 = .ok (.lastore, 1) := by decide +kernel
theorem dX7_play_169 : decode cX7_play 169 = .ok (.aload_n 0, 1) := by decide +kernel
theorem dX7_play_170 : decode cX7_play 170 = .ok (.getfield 7, 3) := by decide +kernel
theorem dX7_play_173 : decode cX7_play 173 = .ok (.iconst 4, 1) := by decide +kernel
theorem dX7_play_174 : decode cX7_play 174 = .ok (.lconst 0, 1) := by decide +kernel
theorem dX7_play_175 : decode cX7_play 175 = .ok (.lastore, 1) := by decide +kernel
theorem dX7_play_176 : decode cX7_play 176 = .ok (.aload_n 0, 1) := by decide +kernel
theorem dX7_play_177 : decode cX7_play 177 = .ok (.invokevirtual 74, 3) := by decide +kernel
theorem dX7_play_180 : decode cX7_play 180 = .ok (.iload_n 3, 1) := by decide +kernel
theorem dX7_play_181 : decode cX7_play 181 = .ok (.ireturn, 1) := by decide +kernel
theorem dX7_pass_0 : decode cX7_pass 0 = .ok (.aload_n 0, 1) := by decide +kernel
theorem dX7_pass_1 : decode cX7_pass 1 = .ok (.aload_n 0, 1) := by decide +kernel
theorem dX7_pass_2 : decode cX7_pass 2 = .ok (.getfield 7, 3) := by decide +kernel
theorem dX7_pass_5 : decode cX7_pass 5 = .ok (.iconst 4, 1) := by decide +kernel
theorem dX7_pass_6 : decode cX7_pass 6 = .ok (.laload, 1) := by decide +kernel
theorem dX7_pass_7 : decode cX7_pass 7 = .ok (.ldc2_w 79, 3) := by decide +kernel
theorem dX7_pass_10 : decode cX7_pass 10 = .ok (.lcmp, 1) := by decide +kernel
theorem dX7_pass_11 : decode cX7_pass 11 = .ok (.ifCond .ne 7, 3) := by decide +kernel
theorem dX7_pass_14 : decode cX7_pass 14 = .ok (.iconst 1, 1) := by decide +kernel
theorem dX7_pass_15 : decode cX7_pass 15 = .ok (.goto 4, 3) := by decide +kernel
theorem dX7_pass_18 : decode cX7_pass 18 = .ok (.iconst 0, 1) := by decide +kernel
theorem dX7_pass_19 : decode cX7_pass 19 = .ok (.putfield 51, 3) := by decide +kernel
theorem dX7_pass_22 : decode cX7_pass 22 = .ok (.aload_n 0, 1) := by decide +kernel
theorem dX7_pass_23 : decode cX7_pass 23 = .ok (.getfield 51, 3) := by decide +kernel
theorem dX7_pass_26 : decode cX7_pass 26 = .ok (.ifCond .le 5, 3) := by decide +kernel
theorem dX7_pass_29 : decode cX7_pass 29 = .ok (.iconst 0, 1) := by decide +kernel
theorem dX7_pass_30 : decode cX7_pass 30 = .ok (.ireturn, 1) := by decide +kernel
theorem dX7_pass_31 : decode cX7_pass 31 = .ok (.aload_n 0, 1) := by decide +kernel
theorem dX7_pass_32 : decode cX7_pass 32 = .ok (.invokevirtual 69, 3) := by decide +kernel
theorem dX7_pass_35 : decode cX7_pass 35 = .ok (.aload_n 0, 1) := by decide +kernel
theorem dX7_pass_36 : decode cX7_pass 36 = .ok (.getfield 7, 3) := by decide +kernel
theorem dX7_pass_39 : decode cX7_pass 39 = .ok (.iconst 4, 1) := by decide +kernel
theorem dX7_pass_40 : decode cX7_pass 40 = .ok (.dup2, 1) := by decide +kernel
theorem dX7_pass_41 : decode cX7_pass 41 = .ok (.laload, 1) := by decide +kernel
theorem dX7_pass_42 : decode cX7_pass 42 = .ok (.lconst 1, 1) := by decide +kernel
theorem dX7_pass_43 : decode cX7_pass 43 = .ok (.ladd, 1) := by decide +kernel
theorem dX7_pass_44 : decode cX7_pass 44 = .ok (.lastore, 1) := by decide +kernel
theorem dX7_pass_45 : decode cX7_pass 45 = .ok (.aload_n 0, 1) := by decide +kernel
theorem dX7_pass_46 : decode cX7_pass 46 = .ok (.getfield 7, 3) := by decide +kernel
theorem dX7_pass_49 : decode cX7_pass 49 = .ok (.iconst 2, 1) := by decide +kernel
theorem dX7_pass_50 : decode cX7_pass 50 = .ok (.ldc2_w 47, 3) := by decide +kernel
theorem dX7_pass_53 : decode cX7_pass 53 = .ok (.aload_n 0, 1) := by decide +kernel
theorem dX7_pass_54 : decode cX7_pass 54 = .ok (.getfield 7, 3) := by decide +kernel
theorem dX7_pass_57 : decode cX7_pass 57 = .ok (.iconst 2, 1) := by decide +kernel
theorem dX7_pass_58 : decode cX7_pass 58 = .ok (.laload, 1) := by decide +kernel
theorem dX7_pass_59 : decode cX7_pass 59 = .ok (.lsub, 1) := by decide +kernel
theorem dX7_pass_60 : decode cX7_pass 60 = .ok (.lastore, 1) := by decide +kernel
theorem dX7_pass_61 : decode cX7_pass 61 = .ok (.aload_n 0, 1) := by decide +kernel
theorem dX7_pass_62 : decode cX7_pass 62 = .ok (.getfield 7, 3) := by decide +kernel
theorem dX7_pass_65 : decode cX7_pass 65 = .ok (.bipush 7, 2) := by decide +kernel
theorem dX7_pass_67 : decode cX7_pass 67 = .ok (.ldc2_w 49, 3) := by decide +kernel
theorem dX7_pass_70 : decode cX7_pass 70 = .ok (.lastore, 1) := by decide +kernel
theorem dX7_pass_71 : decode cX7_pass 71 = .ok (.aload_n 0, 1) := by decide +kernel
theorem dX7_pass_72 : decode cX7_pass 72 = .ok (.getfield 7, 3) := by decide +kernel
theorem dX7_pass_75 : decode cX7_pass 75 = .ok (.iconst 4, 1) := by decide +kernel
theorem dX7_pass_76 : decode cX7_pass 76 = .ok (.laload, 1) := by decide +kernel
theorem dX7_pass_77 : decode cX7_pass 77 = .ok (.l2i, 1) := by decide +kernel
theorem dX7_pass_78 : decode cX7_pass 78 = .ok (.ireturn, 1) := by decide +kernel
theorem dX7_move_0 : decode cX7_move 0 = .ok (.aload_n 0, 1) := by decide +kernel
theorem dX7_move_1 : decode cX7_move 1 = .ok (.aload_n 0, 1) := by decide +kernel
theorem dX7_move_2 : decode cX7_move 2 = .ok (.iload_n 1, 1) := by decide +kernel
theorem dX7_move_3 : decode cX7_move 3 = .ok (.invokevirtual 223, 3) := by decide +kernel
theorem dX7_move_6 : decode cX7_move 6 = .ok (.ifCond .ne 7, 3) := by decide +kernel
theorem dX7_move_9 : decode cX7_move 9 = .ok (.iconst 1, 1) := by decide +kernel
theorem dX7_move_10 : decode cX7_move 10 = .ok (.goto 39, 3) := by decide +kernel
theorem dX7_move_13 : decode cX7_move 13 = .ok (.iload_n 2, 1) := by decide +kernel
theorem dX7_move_14 : decode cX7_move 14 = .ok (.invokestatic 241, 3) := by decide +kernel
theorem dX7_move_17 : decode cX7_move 17 = .ok (.ifCond .eq 15, 3) := by decide +kernel
theorem dX7_move_20 : decode cX7_move 20 = .ok (.iload_n 3, 1) := by decide +kernel
theorem dX7_move_21 : decode cX7_move 21 = .ok (.i2l, 1) := by decide +kernel
theorem dX7_move_22 : decode cX7_move 22 = .ok (.lconst 0, 1) := by decide +kernel
theorem dX7_move_23 : decode cX7_move 23 = .ok (.ldc2_w 79, 3) := by decide +kernel
theorem dX7_move_26 : decode cX7_move 26 = .ok (.invokestatic 61, 3) := by decide +kernel
theorem dX7_move_29 : decode cX7_move 29 = .ok (.ifCond .ne 7, 3) := by decide +kernel
theorem dX7_move_32 : decode cX7_move 32 = .ok (.iconst 2, 1) := by decide +kernel
theorem dX7_move_33 : decode cX7_move 33 = .ok (.goto 16, 3) := by decide +kernel
theorem dX7_move_36 : decode cX7_move 36 = .ok (.aload_n 0, 1) := by decide +kernel
theorem dX7_move_37 : decode cX7_move 37 = .ok (.iload_n 1, 1) := by decide +kernel
theorem dX7_move_38 : decode cX7_move 38 = .ok (.invokevirtual 203, 3) := by decide +kernel
theorem dX7_move_41 : decode cX7_move 41 = .ok (.ifCond .le 7, 3) := by decide +kernel
theorem dX7_move_44 : decode cX7_move 44 = .ok (.iconst 3, 1) := by decide +kernel
theorem dX7_move_45 : decode cX7_move 45 = .ok (.goto 4, 3) := by decide +kernel
theorem dX7_move_48 : decode cX7_move 48 = .ok (.iconst 0, 1) := by decide +kernel
theorem dX7_move_49 : decode cX7_move 49 = .ok (.putfield 51, 3) := by decide +kernel
theorem dX7_move_52 : decode cX7_move 52 = .ok (.aload_n 0, 1) := by decide +kernel
theorem dX7_move_53 : decode cX7_move 53 = .ok (.getfield 51, 3) := by decide +kernel
theorem dX7_move_56 : decode cX7_move 56 = .ok (.ifCond .le 5, 3) := by decide +kernel
theorem dX7_move_59 : decode cX7_move 59 = .ok (.iconst 0, 1) := by decide +kernel
theorem dX7_move_60 : decode cX7_move 60 = .ok (.ireturn, 1) := by decide +kernel
theorem dX7_move_61 : decode cX7_move 61 = .ok (.aload_n 0, 1) := by decide +kernel
theorem dX7_move_62 : decode cX7_move 62 = .ok (.iload_n 1, 1) := by decide +kernel
theorem dX7_move_63 : decode cX7_move 63 = .ok (.iload_n 2, 1) := by decide +kernel
theorem dX7_move_64 : decode cX7_move 64 = .ok (.invokevirtual 268, 3) := by decide +kernel
theorem dX7_move_67 : decode cX7_move 67 = .ok (.istore 4, 2) := by decide +kernel
theorem dX7_move_69 : decode cX7_move 69 = .ok (.iload_n 3, 1) := by decide +kernel
theorem dX7_move_70 : decode cX7_move 70 = .ok (.ifCond .ne 10, 3) := by decide +kernel
theorem dX7_move_73 : decode cX7_move 73 = .ok (.aload_n 0, 1) := by decide +kernel
theorem dX7_move_74 : decode cX7_move 74 = .ok (.getfield 252, 3) := by decide +kernel
theorem dX7_move_77 : decode cX7_move 77 = .ok (.goto 19, 3) := by decide +kernel
theorem dX7_move_80 : decode cX7_move 80 = .ok (.iload_n 3, 1) := by decide +kernel
theorem dX7_move_81 : decode cX7_move 81 = .ok (.iconst 1, 1) := by decide +kernel
theorem dX7_move_82 : decode cX7_move 82 = .ok (.if_icmp .ne 10, 3) := by decide +kernel
theorem dX7_move_85 : decode cX7_move 85 = .ok (.aload_n 0, 1) := by decide +kernel
theorem dX7_move_86 : decode cX7_move 86 = .ok (.getfield 258, 3) := by decide +kernel
theorem dX7_move_89 : decode cX7_move 89 = .ok (.goto 7, 3) := by decide +kernel
theorem dX7_move_92 : decode cX7_move 92 = .ok (.aload_n 0, 1) := by decide +kernel
theorem dX7_move_93 : decode cX7_move 93 = .ok (.getfield 261, 3) := by decide +kernel
theorem dX7_move_96 : decode cX7_move 96 = .ok (.invokestatic 57, 3) := by decide +kernel
theorem dX7_move_99 : decode cX7_move 99 = .ok (.ireturn, 1) := by decide +kernel
theorem dX7_moves_0 : decode cX7_moves 0 = .ok (.aload_n 0, 1) := by decide +kernel
theorem dX7_moves_1 : decode cX7_moves 1 = .ok (.iload_n 1, 1) := by decide +kernel
theorem dX7_moves_2 : decode cX7_moves 2 = .ok (.invokestatic 241, 3) := by decide +kernel
theorem dX7_moves_5 : decode cX7_moves 5 = .ok (.ifCond .eq 7, 3) := by decide +kernel
theorem dX7_moves_8 : decode cX7_moves 8 = .ok (.iconst 0, 1) := by decide +kernel
theorem dX7_moves_9 : decode cX7_moves 9 = .ok (.goto 4, 3) := by decide +kernel
theorem dX7_moves_12 : decode cX7_moves 12 = .ok (.iconst 1, 1) := by decide +kernel
theorem dX7_moves_13 : decode cX7_moves 13 = .ok (.putfield 51, 3) := by decide +kernel
theorem dX7_moves_16 : decode cX7_moves 16 = .ok (.iconst 0, 1) := by decide +kernel
theorem dX7_moves_17 : decode cX7_moves 17 = .ok (.istore_n 2, 1) := by decide +kernel
theorem dX7_moves_18 : decode cX7_moves 18 = .ok (.iconst 0, 1) := by decide +kernel
theorem dX7_moves_19 : decode cX7_moves 19 = .ok (.istore_n 3, 1) := by decide +kernel
theorem dX7_moves_20 : decode cX7_moves 20 = .ok (.iload_n 3, 1) := by decide +kernel
theorem dX7_moves_21 : decode cX7_moves 21 = .ok (.aload_n 0, 1) := by decide +kernel
theorem dX7_moves_22 : decode cX7_moves 22 = .ok (.invokevirtual 180, 3) := by decide +kernel
theorem dX7_moves_25 : decode cX7_moves 25 = .ok (.if_icmp .ge 33, 3) := by decide +kernel
theorem dX7_moves_28 : decode cX7_moves 28 = .ok (.aload_n 0, 1) := by decide +kernel
theorem dX7_moves_29 : decode cX7_moves 29 = .ok (.getfield 51, 3) := by decide +kernel
theorem dX7_moves_32 : decode cX7_moves 32 = .ok (.ifCond .ne 26, 3) := by decide +kernel
theorem dX7_moves_35 : decode cX7_moves 35 = .ok (.iload_n 2, 1) := by decide +kernel
theorem dX7_moves_36 : decode cX7_moves 36 = .ok (.aload_n 0, 1) := by decide +kernel
theorem dX7_moves_37 : decode cX7_moves 37 = .ok (.iload_n 3, 1) := by decide +kernel
theorem dX7_moves_38 : decode cX7_moves 38 = .ok (.iload_n 1, 1) := by decide +kernel
theorem dX7_moves_39 : decode cX7_moves 39 = .ok (.invokevirtual 275, 3) := by decide +kernel
theorem dX7_moves_42 : decode cX7_moves 42 = .ok (.ifCond .ne 7, 3) := by decide +kernel
theorem dX7_moves_45 : decode cX7_moves 45 = .ok (.iconst 1, 1) := by decide +kernel
theorem dX7_moves_46 : decode cX7_moves 46 = .ok (.goto 4, 3) := by decide +kernel
theorem dX7_moves_49 : decode cX7_moves 49 = .ok (.iconst 0, 1) := by decide +kernel
theorem dX7_moves_50 : decode cX7_moves 50 = .ok (.iadd, 1) := by decide +kernel
theorem dX7_moves_51 : decode cX7_moves 51 = .ok (.istore_n 2, 1) := by decide +kernel
theorem dX7_moves_52 : decode cX7_moves 52 = .ok (.iinc 3 1, 3) := by decide +kernel
theorem dX7_moves_55 : decode cX7_moves 55 = .ok (.goto (-35), 3) := by decide +kernel
theorem dX7_moves_58 : decode cX7_moves 58 = .ok (.iload_n 2, 1) := by decide +kernel
theorem dX7_moves_59 : decode cX7_moves 59 = .ok (.ireturn, 1) := by decide +kernel
theorem dX7_greediest_0 : decode cX7_greediest 0 = .ok (.aload_n 0, 1) := by decide +kernel
theorem dX7_greediest_1 : decode cX7_greediest 1 = .ok (.iload_n 1, 1) := by decide +kernel
theorem dX7_greediest_2 : decode cX7_greediest 2 = .ok (.invokestatic 241, 3) := by decide +kernel
theorem dX7_greediest_5 : decode cX7_greediest 5 = .ok (.ifCond .eq 7, 3) := by decide +kernel
theorem dX7_greediest_8 : decode cX7_greediest 8 = .ok (.iconst 0, 1) := by decide +kernel
theorem dX7_greediest_9 : decode cX7_greediest 9 = .ok (.goto 4, 3) := by decide +kernel
theorem dX7_greediest_12 : decode cX7_greediest 12 = .ok (.iconst 1, 1) := by decide +kernel
theorem dX7_greediest_13 : decode cX7_greediest 13 = .ok (.putfield 51, 3) := by decide +kernel
theorem dX7_greediest_16 : decode cX7_greediest 16 = .ok (.aload_n 0, 1) := by decide +kernel
theorem dX7_greediest_17 : decode cX7_greediest 17 = .ok (.getfield 51, 3) := by decide +kernel
theorem dX7_greediest_20 : decode cX7_greediest 20 = .ok (.ifCond .le 5, 3) := by decide +kernel
theorem dX7_greediest_23 : decode cX7_greediest 23 = .ok (.iconst 0, 1) := by decide +kernel
theorem dX7_greediest_24 : decode cX7_greediest 24 = .ok (.ireturn, 1) := by decide +kernel
theorem dX7_greediest_25 : decode cX7_greediest 25 = .ok (.iconst (-1), 1) := by decide +kernel
theorem dX7_greediest_26 : decode cX7_greediest 26 = .ok (.istore_n 2, 1) := by decide +kernel
theorem dX7_greediest_27 : decode cX7_greediest 27 = .ok (.iconst (-1), 1) := by decide +kernel
theorem dX7_greediest_28 : decode cX7_greediest 28 = .ok (.istore_n 3, 1) := by decide +kernel
theorem dX7_greediest_29 : decode cX7_greediest 29 = .ok (.iconst 0, 1) := by decide +kernel
theorem dX7_greediest_30 : decode cX7_greediest 30 = .ok (.istore 4, 2) := by decide +kernel
theorem dX7_greediest_32 : decode cX7_greediest 32 = .ok (.iload 4, 2) := by decide +kernel
theorem dX7_greediest_34 : decode cX7_greediest 34 = .ok (.aload_n 0, 1) := by decide +kernel
theorem dX7_greediest_35 : decode cX7_greediest 35 = .ok (.invokevirtual 180, 3) := by decide +kernel
theorem dX7_greediest_38 : decode cX7_greediest 38 = .ok (.if_icmp .ge 44, 3) := by decide +kernel
theorem dX7_greediest_41 : decode cX7_greediest 41 = .ok (.aload_n 0, 1) := by decide +kernel
theorem dX7_greediest_42 : decode cX7_greediest 42 = .ok (.iload 4, 2) := by decide +kernel
theorem dX7_greediest_44 : decode cX7_greediest 44 = .ok (.iload_n 1, 1) := by decide +kernel
theorem dX7_greediest_45 : decode cX7_greediest 45 = .ok (.invokevirtual 275, 3) := by decide +kernel
theorem dX7_greediest_48 : decode cX7_greediest 48 = .ok (.ifCond .ne 28, 3) := by decide +kernel
theorem dX7_greediest_51 : decode cX7_greediest 51 = .ok (.aload_n 0, 1) := by decide +kernel
theorem dX7_greediest_52 : decode cX7_greediest 52 = .ok (.getfield 252, 3) := by decide +kernel
theorem dX7_greediest_55 : decode cX7_greediest 55 = .ok (.invokestatic 57, 3) := by decide +kernel
theorem dX7_greediest_58 : decode cX7_greediest 58 = .ok (.iload_n 3, 1) := by decide +kernel
theorem dX7_greediest_59 : decode cX7_greediest 59 = .ok (.if_icmp .gt 6, 3) := by decide +kernel
theorem dX7_greediest_62 : decode cX7_greediest 62 = .ok (.goto 14, 3) := by decide +kernel
theorem dX7_greediest_65 : decode cX7_greediest 65 = .ok (.iload 4, 2) := by decide +kernel
theorem dX7_greediest_67 : decode cX7_greediest 67 = .ok (.istore_n 2, 1) := by decide +kernel
theorem dX7_greediest_68 : decode cX7_greediest 68 = .ok (.aload_n 0, 1) := by decide +kernel
theorem dX7_greediest_69 : decode cX7_greediest 69 = .ok (.getfield 252, 3) := by decide +kernel
theorem dX7_greediest_72 : decode cX7_greediest 72 = .ok (.invokestatic 57, 3) := by decide +kernel
theorem dX7_greediest_75 : decode cX7_greediest 75 = .ok (.istore_n 3, 1) := by decide +kernel
theorem dX7_greediest_76 : decode cX7_greediest 76 = .ok (.iinc 4 1, 3) := by decide +kernel
theorem dX7_greediest_79 : decode cX7_greediest 79 = .ok (.goto (-47), 3) := by decide +kernel
theorem dX7_greediest_82 : decode cX7_greediest 82 = .ok (.aload_n 0, 1) := by decide +kernel
theorem dX7_greediest_83 : decode cX7_greediest 83 = .ok (.iload_n 2, 1) := by decide +kernel
theorem dX7_greediest_84 : decode cX7_greediest 84 = .ok (.iconst (-1), 1) := by decide +kernel
theorem dX7_greediest_85 : decode cX7_greediest 85 = .ok (.if_icmp .ne 7, 3) := by decide +kernel
theorem dX7_greediest_88 : decode cX7_greediest 88 = .ok (.iconst 2, 1) := by decide +kernel
theorem dX7_greediest_89 : decode cX7_greediest 89 = .ok (.goto 4, 3) := by decide +kernel
theorem dX7_greediest_92 : decode cX7_greediest 92 = .ok (.iconst 0, 1) := by decide +kernel
theorem dX7_greediest_93 : decode cX7_greediest 93 = .ok (.putfield 51, 3) := by decide +kernel
theorem dX7_greediest_96 : decode cX7_greediest 96 = .ok (.aload_n 0, 1) := by decide +kernel
theorem dX7_greediest_97 : decode cX7_greediest 97 = .ok (.getfield 51, 3) := by decide +kernel
theorem dX7_greediest_100 : decode cX7_greediest 100 = .ok (.ifCond .le 7, 3) := by decide +kernel
theorem dX7_greediest_103 : decode cX7_greediest 103 = .ok (.iconst 0, 1) := by decide +kernel
theorem dX7_greediest_104 : decode cX7_greediest 104 = .ok (.goto 4, 3) := by decide +kernel
theorem dX7_greediest_107 : decode cX7_greediest 107 = .ok (.iload_n 2, 1) := by decide +kernel
theorem dX7_greediest_108 : decode cX7_greediest 108 = .ok (.ireturn, 1) := by decide +kernel
theorem dX7_lays_0 : decode cX7_lays 0 = .ok (.iconst 0, 1) := by decide +kernel
theorem dX7_lays_1 : decode cX7_lays 1 = .ok (.istore 4, 2) := by decide +kernel
theorem dX7_lays_3 : decode cX7_lays 3 = .ok (.iload 4, 2) := by decide +kernel
theorem dX7_lays_5 : decode cX7_lays 5 = .ok (.iconst 2, 1) := by decide +kernel
theorem dX7_lays_6 : decode cX7_lays 6 = .ok (.if_icmp .ge 47, 3) := by decide +kernel
theorem dX7_lays_9 : decode cX7_lays 9 = .ok (.aload_n 1, 1) := by decide +kernel
theorem dX7_lays_10 : decode cX7_lays 10 = .ok (.bipush 11, 2) := by decide +kernel
theorem dX7_lays_12 : decode cX7_lays 12 = .ok (.iload 4, 2) := by decide +kernel
theorem dX7_lays_14 : decode cX7_lays 14 = .ok (.iadd, 1) := by decide +kernel
theorem dX7_lays_15 : decode cX7_lays 15 = .ok (.aload_n 1, 1) := by decide +kernel
theorem dX7_lays_16 : decode cX7_lays 16 = .ok (.bipush 11, 2) := by decide +kernel
theorem dX7_lays_18 : decode cX7_lays 18 = .ok (.iload 4, 2) := by decide +kernel
theorem dX7_lays_20 : decode cX7_lays 20 = .ok (.iadd, 1) := by decide +kernel
theorem dX7_lays_21 : decode cX7_lays 21 = .ok (.laload, 1) := by decide +kernel
theorem dX7_lays_22 : decode cX7_lays 22 = .ok (.lconst 1, 1) := by decide +kernel
theorem dX7_lays_23 : decode cX7_lays 23 = .ok (.iload_n 2, 1) := by decide +kernel
theorem dX7_lays_24 : decode cX7_lays 24 = .ok (.lshl, 1) := by decide +kernel
theorem dX7_lays_25 : decode cX7_lays 25 = .ok (.ldc2_w 49, 3) := by decide +kernel
theorem dX7_lays_28 : decode cX7_lays 28 = .ok (.lxor, 1) := by decide +kernel
theorem dX7_lays_29 : decode cX7_lays 29 = .ok (.land, 1) := by decide +kernel
theorem dX7_lays_30 : decode cX7_lays 30 = .ok (.iload_n 3, 1) := by decide +kernel
theorem dX7_lays_31 : decode cX7_lays 31 = .ok (.iload 4, 2) := by decide +kernel
theorem dX7_lays_33 : decode cX7_lays 33 = .ok (.iconst 1, 1) := by decide +kernel
theorem dX7_lays_34 : decode cX7_lays 34 = .ok (.iadd, 1) := by decide +kernel
theorem dX7_lays_35 : decode cX7_lays 35 = .ok (.if_icmp .ne 9, 3) := by decide +kernel
theorem dX7_lays_38 : decode cX7_lays 38 = .ok (.lconst 1, 1) := by decide +kernel
theorem dX7_lays_39 : decode cX7_lays 39 = .ok (.iload_n 2, 1) := by decide +kernel
theorem dX7_lays_40 : decode cX7_lays 40 = .ok (.lshl, 1) := by decide +kernel
theorem dX7_lays_41 : decode cX7_lays 41 = .ok (.goto 4, 3) := by decide +kernel
theorem dX7_lays_44 : decode cX7_lays 44 = .ok (.lconst 0, 1) := by decide +kernel
theorem dX7_lays_45 : decode cX7_lays 45 = .ok (.lor, 1) := by decide +kernel
theorem dX7_lays_46 : decode cX7_lays 46 = .ok (.lastore, 1) := by decide +kernel
theorem dX7_lays_47 : decode cX7_lays 47 = .ok (.iinc 4 1, 3) := by decide +kernel
theorem dX7_lays_50 : decode cX7_lays 50 = .ok (.goto (-47), 3) := by decide +kernel
theorem dX7_lays_53 : decode cX7_lays 53 = .ok (.return_, 1) := by decide +kernel
theorem dX7_canLay_0 : decode cX7_canLay 0 = .ok (.iconst 0, 1) := by decide +kernel
theorem dX7_canLay_1 : decode cX7_canLay 1 = .ok (.istore_n 3, 1) := by decide +kernel
theorem dX7_canLay_2 : decode cX7_canLay 2 = .ok (.iload_n 3, 1) := by decide +kernel
theorem dX7_canLay_3 : decode cX7_canLay 3 = .ok (.bipush 73, 2) := by decide +kernel
theorem dX7_canLay_5 : decode cX7_canLay 5 = .ok (.if_icmp .ge 21, 3) := by decide +kernel
theorem dX7_canLay_8 : decode cX7_canLay 8 = .ok (.aload_n 0, 1) := by decide +kernel
theorem dX7_canLay_9 : decode cX7_canLay 9 = .ok (.getfield 13, 3) := by decide +kernel
theorem dX7_canLay_12 : decode cX7_canLay 12 = .ok (.iload_n 3, 1) := by decide +kernel
theorem dX7_canLay_13 : decode cX7_canLay 13 = .ok (.aload_n 0, 1) := by decide +kernel
theorem dX7_canLay_14 : decode cX7_canLay 14 = .ok (.getfield 7, 3) := by decide +kernel
theorem dX7_canLay_17 : decode cX7_canLay 17 = .ok (.iload_n 3, 1) := by decide +kernel
theorem dX7_canLay_18 : decode cX7_canLay 18 = .ok (.laload, 1) := by decide +kernel
theorem dX7_canLay_19 : decode cX7_canLay 19 = .ok (.lastore, 1) := by decide +kernel
theorem dX7_canLay_20 : decode cX7_canLay 20 = .ok (.iinc 3 1, 3) := by decide +kernel
theorem dX7_canLay_23 : decode cX7_canLay 23 = .ok (.goto (-21), 3) := by decide +kernel
theorem dX7_canLay_26 : decode cX7_canLay 26 = .ok (.aload_n 0, 1) := by decide +kernel
theorem dX7_canLay_27 : decode cX7_canLay 27 = .ok (.aload_n 0, 1) := by decide +kernel
theorem dX7_canLay_28 : decode cX7_canLay 28 = .ok (.getfield 13, 3) := by decide +kernel
theorem dX7_canLay_31 : decode cX7_canLay 31 = .ok (.iload_n 1, 1) := by decide +kernel
theorem dX7_canLay_32 : decode cX7_canLay 32 = .ok (.iload_n 2, 1) := by decide +kernel
theorem dX7_canLay_33 : decode cX7_canLay 33 = .ok (.invokevirtual 278, 3) := by decide +kernel
theorem dX7_canLay_36 : decode cX7_canLay 36 = .ok (.aload_n 0, 1) := by decide +kernel
theorem dX7_canLay_37 : decode cX7_canLay 37 = .ok (.getfield 13, 3) := by decide +kernel
theorem dX7_canLay_40 : decode cX7_canLay 40 = .ok (.invokestatic 176, 3) := by decide +kernel
theorem dX7_canLay_43 : decode cX7_canLay 43 = .ok (.ireturn, 1) := by decide +kernel
theorem dX7_setStone_0 : decode cX7_setStone 0 = .ok (.aload_n 0, 1) := by decide +kernel
theorem dX7_setStone_1 : decode cX7_setStone 1 = .ok (.aload_n 0, 1) := by decide +kernel
theorem dX7_setStone_2 : decode cX7_setStone 2 = .ok (.iload_n 1, 1) := by decide +kernel
theorem dX7_setStone_3 : decode cX7_setStone 3 = .ok (.invokevirtual 223, 3) := by decide +kernel
theorem dX7_setStone_6 : decode cX7_setStone 6 = .ok (.ifCond .ne 7, 3) := by decide +kernel
theorem dX7_setStone_9 : decode cX7_setStone 9 = .ok (.iconst 1, 1) := by decide +kernel
theorem dX7_setStone_10 : decode cX7_setStone 10 = .ok (.goto 33, 3) := by decide +kernel
theorem dX7_setStone_13 : decode cX7_setStone 13 = .ok (.iload_n 2, 1) := by decide +kernel
theorem dX7_setStone_14 : decode cX7_setStone 14 = .ok (.i2l, 1) := by decide +kernel
theorem dX7_setStone_15 : decode cX7_setStone 15 = .ok (.lconst 0, 1) := by decide +kernel
theorem dX7_setStone_16 : decode cX7_setStone 16 = .ok (.ldc2_w 79, 3) := by decide +kernel
theorem dX7_setStone_19 : decode cX7_setStone 19 = .ok (.invokestatic 61, 3) := by decide +kernel
theorem dX7_setStone_22 : decode cX7_setStone 22 = .ok (.ifCond .ne 7, 3) := by decide +kernel
theorem dX7_setStone_25 : decode cX7_setStone 25 = .ok (.iconst 2, 1) := by decide +kernel
theorem dX7_setStone_26 : decode cX7_setStone 26 = .ok (.goto 17, 3) := by decide +kernel
theorem dX7_setStone_29 : decode cX7_setStone 29 = .ok (.aload_n 0, 1) := by decide +kernel
theorem dX7_setStone_30 : decode cX7_setStone 30 = .ok (.iload_n 1, 1) := by decide +kernel
theorem dX7_setStone_31 : decode cX7_setStone 31 = .ok (.iload_n 2, 1) := by decide +kernel
theorem dX7_setStone_32 : decode cX7_setStone 32 = .ok (.invokevirtual 282, 3) := by decide +kernel
theorem dX7_setStone_35 : decode cX7_setStone 35 = .ok (.ifCond .eq 7, 3) := by decide +kernel
theorem dX7_setStone_38 : decode cX7_setStone 38 = .ok (.iconst 0, 1) := by decide +kernel
theorem dX7_setStone_39 : decode cX7_setStone 39 = .ok (.goto 4, 3) := by decide +kernel
theorem dX7_setStone_42 : decode cX7_setStone 42 = .ok (.iconst 3, 1) := by decide +kernel
theorem dX7_setStone_43 : decode cX7_setStone 43 = .ok (.putfield 51, 3) := by decide +kernel
theorem dX7_setStone_46 : decode cX7_setStone 46 = .ok (.aload_n 0, 1) := by decide +kernel
theorem dX7_setStone_47 : decode cX7_setStone 47 = .ok (.getfield 51, 3) := by decide +kernel
theorem dX7_setStone_50 : decode cX7_setStone 50 = .ok (.ifCond .le 5, 3) := by decide +kernel
theorem dX7_setStone_53 : decode cX7_setStone 53 = .ok (.iconst 0, 1) := by decide +kernel
theorem dX7_setStone_54 : decode cX7_setStone 54 = .ok (.ireturn, 1) := by decide +kernel
theorem dX7_setStone_55 : decode cX7_setStone 55 = .ok (.aload_n 0, 1) := by decide +kernel
theorem dX7_setStone_56 : decode cX7_setStone 56 = .ok (.invokevirtual 69, 3) := by decide +kernel
theorem dX7_setStone_59 : decode cX7_setStone 59 = .ok (.aload_n 0, 1) := by decide +kernel
theorem dX7_setStone_60 : decode cX7_setStone 60 = .ok (.iload_n 1, 1) := by decide +kernel
theorem dX7_setStone_61 : decode cX7_setStone 61 = .ok (.invokevirtual 203, 3) := by decide +kernel
theorem dX7_setStone_64 : decode cX7_setStone 64 = .ok (.istore_n 3, 1) := by decide +kernel
theorem dX7_setStone_65 : decode cX7_setStone 65 = .ok (.aload_n 0, 1) := by decide +kernel
theorem dX7_setStone_66 : decode cX7_setStone 66 = .ok (.aload_n 0, 1) := by decide +kernel
theorem dX7_setStone_67 : decode cX7_setStone 67 = .ok (.getfield 7, 3) := by decide +kernel
theorem dX7_setStone_70 : decode cX7_setStone 70 = .ok (.iload_n 1, 1) := by decide +kernel
theorem dX7_setStone_71 : decode cX7_setStone 71 = .ok (.iload_n 2, 1) := by decide +kernel
theorem dX7_setStone_72 : decode cX7_setStone 72 = .ok (.invokevirtual 278, 3) := by decide +kernel
theorem dX7_setStone_75 : decode cX7_setStone 75 = .ok (.aload_n 0, 1) := by decide +kernel
theorem dX7_setStone_76 : decode cX7_setStone 76 = .ok (.getfield 7, 3) := by decide +kernel
theorem dX7_setStone_79 : decode cX7_setStone 79 = .ok (.bipush 7, 2) := by decide +kernel
theorem dX7_setStone_81 : decode cX7_setStone 81 = .ok (.ldc2_w 49, 3) := by decide +kernel
theorem dX7_setStone_84 : decode cX7_setStone 84 = .ok (.lastore, 1) := by decide +kernel
theorem dX7_setStone_85 : decode cX7_setStone 85 = .ok (.aload_n 0, 1) := by decide +kernel
theorem dX7_setStone_86 : decode cX7_setStone 86 = .ok (.getfield 7, 3) := by decide +kernel
theorem dX7_setStone_89 : decode cX7_setStone 89 = .ok (.iconst 4, 1) := by decide +kernel
theorem dX7_setStone_90 : decode cX7_setStone 90 = .ok (.lconst 0, 1) := by decide +kernel
theorem dX7_setStone_91 : decode cX7_setStone 91 = .ok (.lastore, 1) := by decide +kernel
theorem dX7_setStone_92 : decode cX7_setStone 92 = .ok (.aload_n 0, 1) := by decide +kernel
theorem dX7_setStone_93 : decode cX7_setStone 93 = .ok (.invokevirtual 44, 3) := by decide +kernel
theorem dX7_setStone_96 : decode cX7_setStone 96 = .ok (.iload_n 3, 1) := by decide +kernel
theorem dX7_setStone_97 : decode cX7_setStone 97 = .ok (.ireturn, 1) := by decide +kernel
theorem dX7_setTurn_0 : decode cX7_setTurn 0 = .ok (.aload_n 0, 1) := by decide +kernel
theorem dX7_setTurn_1 : decode cX7_setTurn 1 = .ok (.iload_n 1, 1) := by decide +kernel
theorem dX7_setTurn_2 : decode cX7_setTurn 2 = .ok (.invokestatic 241, 3) := by decide +kernel
theorem dX7_setTurn_5 : decode cX7_setTurn 5 = .ok (.ifCond .eq 7, 3) := by decide +kernel
theorem dX7_setTurn_8 : decode cX7_setTurn 8 = .ok (.iconst 0, 1) := by decide +kernel
theorem dX7_setTurn_9 : decode cX7_setTurn 9 = .ok (.goto 4, 3) := by decide +kernel
theorem dX7_setTurn_12 : decode cX7_setTurn 12 = .ok (.iconst 1, 1) := by decide +kernel
theorem dX7_setTurn_13 : decode cX7_setTurn 13 = .ok (.putfield 51, 3) := by decide +kernel
theorem dX7_setTurn_16 : decode cX7_setTurn 16 = .ok (.aload_n 0, 1) := by decide +kernel
theorem dX7_setTurn_17 : decode cX7_setTurn 17 = .ok (.getfield 51, 3) := by decide +kernel
theorem dX7_setTurn_20 : decode cX7_setTurn 20 = .ok (.ifCond .le 5, 3) := by decide +kernel
theorem dX7_setTurn_23 : decode cX7_setTurn 23 = .ok (.iconst 0, 1) := by decide +kernel
theorem dX7_setTurn_24 : decode cX7_setTurn 24 = .ok (.ireturn, 1) := by decide +kernel
theorem dX7_setTurn_25 : decode cX7_setTurn 25 = .ok (.aload_n 0, 1) := by decide +kernel
theorem dX7_setTurn_26 : decode cX7_setTurn 26 = .ok (.invokevirtual 69, 3) := by decide +kernel
theorem dX7_setTurn_29 : decode cX7_setTurn 29 = .ok (.aload_n 0, 1) := by decide +kernel
theorem dX7_setTurn_30 : decode cX7_setTurn 30 = .ok (.getfield 7, 3) := by decide +kernel
theorem dX7_setTurn_33 : decode cX7_setTurn 33 = .ok (.iconst 2, 1) := by decide +kernel
theorem dX7_setTurn_34 : decode cX7_setTurn 34 = .ok (.laload, 1) := by decide +kernel
theorem dX7_setTurn_35 : decode cX7_setTurn 35 = .ok (.l2i, 1) := by decide +kernel
theorem dX7_setTurn_36 : decode cX7_setTurn 36 = .ok (.istore_n 2, 1) := by decide +kernel
theorem dX7_setTurn_37 : decode cX7_setTurn 37 = .ok (.aload_n 0, 1) := by decide +kernel
theorem dX7_setTurn_38 : decode cX7_setTurn 38 = .ok (.getfield 7, 3) := by decide +kernel
theorem dX7_setTurn_41 : decode cX7_setTurn 41 = .ok (.iconst 2, 1) := by decide +kernel
theorem dX7_setTurn_42 : decode cX7_setTurn 42 = .ok (.iload_n 1, 1) := by decide +kernel
theorem dX7_setTurn_43 : decode cX7_setTurn 43 = .ok (.i2l, 1) := by decide +kernel
theorem dX7_setTurn_44 : decode cX7_setTurn 44 = .ok (.lastore, 1) := by decide +kernel
theorem dX7_setTurn_45 : decode cX7_setTurn 45 = .ok (.aload_n 0, 1) := by decide +kernel
theorem dX7_setTurn_46 : decode cX7_setTurn 46 = .ok (.getfield 7, 3) := by decide +kernel
theorem dX7_setTurn_49 : decode cX7_setTurn 49 = .ok (.bipush 7, 2) := by decide +kernel
theorem dX7_setTurn_51 : decode cX7_setTurn 51 = .ok (.ldc2_w 49, 3) := by decide +kernel
theorem dX7_setTurn_54 : decode cX7_setTurn 54 = .ok (.lastore, 1) := by decide +kernel
theorem dX7_setTurn_55 : decode cX7_setTurn 55 = .ok (.aload_n 0, 1) := by decide +kernel
theorem dX7_setTurn_56 : decode cX7_setTurn 56 = .ok (.getfield 7, 3) := by decide +kernel
theorem dX7_setTurn_59 : decode cX7_setTurn 59 = .ok (.iconst 4, 1) := by decide +kernel
theorem dX7_setTurn_60 : decode cX7_setTurn 60 = .ok (.lconst 0, 1) := by decide +kernel
theorem dX7_setTurn_61 : decode cX7_setTurn 61 = .ok (.lastore, 1) := by decide +kernel
theorem dX7_setTurn_62 : decode cX7_setTurn 62 = .ok (.iload_n 2, 1) := by decide +kernel
theorem dX7_setTurn_63 : decode cX7_setTurn 63 = .ok (.ireturn, 1) := by decide +kernel
theorem dX7_setRule_0 : decode cX7_setRule 0 = .ok (.aload_n 0, 1) := by decide +kernel
theorem dX7_setRule_1 : decode cX7_setRule 1 = .ok (.iload_n 1, 1) := by decide +kernel
theorem dX7_setRule_2 : decode cX7_setRule 2 = .ok (.i2l, 1) := by decide +kernel
theorem dX7_setRule_3 : decode cX7_setRule 3 = .ok (.lconst 0, 1) := by decide +kernel
theorem dX7_setRule_4 : decode cX7_setRule 4 = .ok (.lconst 1, 1) := by decide +kernel
theorem dX7_setRule_5 : decode cX7_setRule 5 = .ok (.invokestatic 61, 3) := by decide +kernel
theorem dX7_setRule_8 : decode cX7_setRule 8 = .ok (.ifCond .eq 7, 3) := by decide +kernel
theorem dX7_setRule_11 : decode cX7_setRule 11 = .ok (.iconst 0, 1) := by decide +kernel
theorem dX7_setRule_12 : decode cX7_setRule 12 = .ok (.goto 4, 3) := by decide +kernel
theorem dX7_setRule_15 : decode cX7_setRule 15 = .ok (.iconst 1, 1) := by decide +kernel
theorem dX7_setRule_16 : decode cX7_setRule 16 = .ok (.putfield 51, 3) := by decide +kernel
theorem dX7_setRule_19 : decode cX7_setRule 19 = .ok (.aload_n 0, 1) := by decide +kernel
theorem dX7_setRule_20 : decode cX7_setRule 20 = .ok (.getfield 51, 3) := by decide +kernel
theorem dX7_setRule_23 : decode cX7_setRule 23 = .ok (.ifCond .le 5, 3) := by decide +kernel
theorem dX7_setRule_26 : decode cX7_setRule 26 = .ok (.iconst 0, 1) := by decide +kernel
theorem dX7_setRule_27 : decode cX7_setRule 27 = .ok (.ireturn, 1) := by decide +kernel
theorem dX7_setRule_28 : decode cX7_setRule 28 = .ok (.aload_n 0, 1) := by decide +kernel
theorem dX7_setRule_29 : decode cX7_setRule 29 = .ok (.invokevirtual 69, 3) := by decide +kernel
theorem dX7_setRule_32 : decode cX7_setRule 32 = .ok (.aload_n 0, 1) := by decide +kernel
theorem dX7_setRule_33 : decode cX7_setRule 33 = .ok (.getfield 7, 3) := by decide +kernel
theorem dX7_setRule_36 : decode cX7_setRule 36 = .ok (.bipush 8, 2) := by decide +kernel
theorem dX7_setRule_38 : decode cX7_setRule 38 = .ok (.laload, 1) := by decide +kernel
theorem dX7_setRule_39 : decode cX7_setRule 39 = .ok (.l2i, 1) := by decide +kernel
theorem dX7_setRule_40 : decode cX7_setRule 40 = .ok (.istore_n 2, 1) := by decide +kernel
theorem dX7_setRule_41 : decode cX7_setRule 41 = .ok (.aload_n 0, 1) := by decide +kernel
theorem dX7_setRule_42 : decode cX7_setRule 42 = .ok (.getfield 7, 3) := by decide +kernel
theorem dX7_setRule_45 : decode cX7_setRule 45 = .ok (.bipush 8, 2) := by decide +kernel
theorem dX7_setRule_47 : decode cX7_setRule 47 = .ok (.iload_n 1, 1) := by decide +kernel
theorem dX7_setRule_48 : decode cX7_setRule 48 = .ok (.i2l, 1) := by decide +kernel
theorem dX7_setRule_49 : decode cX7_setRule 49 = .ok (.lastore, 1) := by decide +kernel
theorem dX7_setRule_50 : decode cX7_setRule 50 = .ok (.aload_n 0, 1) := by decide +kernel
theorem dX7_setRule_51 : decode cX7_setRule 51 = .ok (.invokevirtual 44, 3) := by decide +kernel

theorem dX3_mountThere_34 : decode cX3_mountThere 34 = .ok (.goto 4, 3) := by decide +kernel
theorem dX3_mountThere_37 : decode cX3_mountThere 37 = .ok (.aconst_null, 1) := by decide +kernel
theorem dX3_mountThere_38 : decode cX3_mountThere 38 = .ok (.areturn, 1) := by decide +kernel
theorem dX3_checkedMount_0 : decode cX3_checkedMount 0 = .ok (.aload_n 0, 1) := by decide +kernel
theorem dX3_checkedMount_1 : decode cX3_checkedMount 1 = .ok (.iload_n 1, 1) := by decide +kernel
theorem dX3_checkedMount_2 : decode cX3_checkedMount 2 = .ok (.invokevirtual 101, 3) := by decide +kernel
theorem dX3_checkedMount_5 : decode cX3_checkedMount 5 = .ok (.astore_n 2, 1) := by decide +kernel
theorem dX3_checkedMount_6 : decode cX3_checkedMount 6 = .ok (.aload_n 2, 1) := by decide +kernel
theorem dX3_checkedMount_7 : decode cX3_checkedMount 7 = .ok (.ifnonnull 14, 3) := by decide +kernel
theorem dX3_checkedMount_10 : decode cX3_checkedMount 10 = .ok (.new 65, 3) := by decide +kernel
theorem dX3_checkedMount_13 : decode cX3_checkedMount 13 = .ok (.dup, 1) := by decide +kernel
theorem dX3_checkedMount_14 : decode cX3_checkedMount 14 = .ok (.ldc_w 264, 3) := by decide +kernel
theorem dX3_checkedMount_17 : decode cX3_checkedMount 17 = .ok (.invokespecial 69, 3) := by decide +kernel
theorem dX3_checkedMount_20 : decode cX3_checkedMount 20 = .ok (.athrow, 1) := by decide +kernel
theorem dX3_checkedMount_21 : decode cX3_checkedMount 21 = .ok (.aload_n 2, 1) := by decide +kernel
theorem dX3_checkedMount_22 : decode cX3_checkedMount 22 = .ok (.areturn, 1) := by decide +kernel
theorem dX3_checkedBackup_0 : decode cX3_checkedBackup 0 = .ok (.iload_n 1, 1) := by decide +kernel
theorem dX3_checkedBackup_1 : decode cX3_checkedBackup 1 = .ok (.ifCond .lt 21, 3) := by decide +kernel
theorem dX3_checkedBackup_4 : decode cX3_checkedBackup 4 = .ok (.iload_n 1, 1) := by decide +kernel
theorem dX3_checkedBackup_5 : decode cX3_checkedBackup 5 = .ok (.aload_n 0, 1) := by decide +kernel
theorem dX3_checkedBackup_6 : decode cX3_checkedBackup 6 = .ok (.getfield 23, 3) := by decide +kernel
theorem dX3_checkedBackup_9 : decode cX3_checkedBackup 9 = .ok (.arraylength, 1) := by decide +kernel
theorem dX3_checkedBackup_10 : decode cX3_checkedBackup 10 = .ok (.if_icmp .ge 12, 3) := by decide +kernel
theorem dX3_checkedBackup_13 : decode cX3_checkedBackup 13 = .ok (.aload_n 0, 1) := by decide +kernel
theorem dX3_checkedBackup_14 : decode cX3_checkedBackup 14 = .ok (.getfield 23, 3) := by decide +kernel
theorem dX3_checkedBackup_17 : decode cX3_checkedBackup 17 = .ok (.iload_n 1, 1) := by decide +kernel
theorem dX3_checkedBackup_18 : decode cX3_checkedBackup 18 = .ok (.aaload, 1) := by decide +kernel
theorem dX3_checkedBackup_19 : decode cX3_checkedBackup 19 = .ok (.goto 4, 3) := by decide +kernel
theorem dX3_checkedBackup_22 : decode cX3_checkedBackup 22 = .ok (.aconst_null, 1) := by decide +kernel
theorem dX3_checkedBackup_23 : decode cX3_checkedBackup 23 = .ok (.astore_n 2, 1) := by decide +kernel
theorem dX3_checkedBackup_24 : decode cX3_checkedBackup 24 = .ok (.aload_n 2, 1) := by decide +kernel
theorem dX3_checkedBackup_25 : decode cX3_checkedBackup 25 = .ok (.ifnonnull 14, 3) := by decide +kernel
theorem dX3_checkedBackup_28 : decode cX3_checkedBackup 28 = .ok (.new 65, 3) := by decide +kernel
theorem dX3_checkedBackup_31 : decode cX3_checkedBackup 31 = .ok (.dup, 1) := by decide +kernel
theorem dX3_checkedBackup_32 : decode cX3_checkedBackup 32 = .ok (.ldc_w 266, 3) := by decide +kernel
theorem dX3_checkedBackup_35 : decode cX3_checkedBackup 35 = .ok (.invokespecial 69, 3) := by decide +kernel
theorem dX3_checkedBackup_38 : decode cX3_checkedBackup 38 = .ok (.athrow, 1) := by decide +kernel
theorem dX3_checkedBackup_39 : decode cX3_checkedBackup 39 = .ok (.aload_n 2, 1) := by decide +kernel
theorem dX3_checkedBackup_40 : decode cX3_checkedBackup 40 = .ok (.areturn, 1) := by decide +kernel
theorem dX3_isUpperOfSome_0 : decode cX3_isUpperOfSome 0 = .ok (.iconst 0, 1) := by decide +kernel
theorem dX3_isUpperOfSome_1 : decode cX3_isUpperOfSome 1 = .ok (.istore_n 2, 1) := by decide +kernel
theorem dX3_isUpperOfSome_2 : decode cX3_isUpperOfSome 2 = .ok (.iload_n 2, 1) := by decide +kernel
theorem dX3_isUpperOfSome_3 : decode cX3_isUpperOfSome 3 = .ok (.aload_n 0, 1) := by decide +kernel
theorem dX3_isUpperOfSome_4 : decode cX3_isUpperOfSome 4 = .ok (.getfield 82, 3) := by decide +kernel
theorem dX3_isUpperOfSome_7 : decode cX3_isUpperOfSome 7 = .ok (.if_icmp .ge 29, 3) := by decide +kernel
theorem dX3_isUpperOfSome_10 : decode cX3_isUpperOfSome 10 = .ok (.aload_n 0, 1) := by decide +kernel
theorem dX3_isUpperOfSome_11 : decode cX3_isUpperOfSome 11 = .ok (.iload_n 2, 1) := by decide +kernel
theorem dX3_isUpperOfSome_12 : decode cX3_isUpperOfSome 12 = .ok (.invokevirtual 101, 3) := by decide +kernel
theorem dX3_isUpperOfSome_15 : decode cX3_isUpperOfSome 15 = .ok (.astore_n 3, 1) := by decide +kernel
theorem dX3_isUpperOfSome_16 : decode cX3_isUpperOfSome 16 = .ok (.aload_n 3, 1) := by decide +kernel
theorem dX3_isUpperOfSome_17 : decode cX3_isUpperOfSome 17 = .ok (.ifnull 13, 3) := by decide +kernel
theorem dX3_isUpperOfSome_20 : decode cX3_isUpperOfSome 20 = .ok (.aload_n 3, 1) := by decide +kernel
theorem dX3_isUpperOfSome_21 : decode cX3_isUpperOfSome 21 = .ok (.getfield 158, 3) := by decide +kernel
theorem dX3_isUpperOfSome_24 : decode cX3_isUpperOfSome 24 = .ok (.iload_n 1, 1) := by decide +kernel
theorem dX3_isUpperOfSome_25 : decode cX3_isUpperOfSome 25 = .ok (.if_icmp .ne 5, 3) := by decide +kernel
theorem dX3_isUpperOfSome_28 : decode cX3_isUpperOfSome 28 = .ok (.iconst 1, 1) := by decide +kernel
theorem dX3_isUpperOfSome_29 : decode cX3_isUpperOfSome 29 = .ok (.ireturn, 1) := by decide +kernel
theorem dX3_isUpperOfSome_30 : decode cX3_isUpperOfSome 30 = .ok (.iinc 2 1, 3) := by decide +kernel
theorem dX3_isUpperOfSome_33 : decode cX3_isUpperOfSome 33 = .ok (.goto (-31), 3) := by decide +kernel
theorem dX3_isUpperOfSome_36 : decode cX3_isUpperOfSome 36 = .ok (.iconst 0, 1) := by decide +kernel
theorem dX3_isUpperOfSome_37 : decode cX3_isUpperOfSome 37 = .ok (.ireturn, 1) := by decide +kernel
theorem dX3_isInSome_0 : decode cX3_isInSome 0 = .ok (.iconst 0, 1) := by decide +kernel
theorem dX3_isInSome_1 : decode cX3_isInSome 1 = .ok (.istore_n 2, 1) := by decide +kernel
theorem dX3_isInSome_2 : decode cX3_isInSome 2 = .ok (.iload_n 2, 1) := by decide +kernel
theorem dX3_isInSome_3 : decode cX3_isInSome 3 = .ok (.aload_n 0, 1) := by decide +kernel
theorem dX3_isInSome_4 : decode cX3_isInSome 4 = .ok (.getfield 82, 3) := by decide +kernel
theorem dX3_isInSome_7 : decode cX3_isInSome 7 = .ok (.if_icmp .ge 37, 3) := by decide +kernel
theorem dX3_isInSome_10 : decode cX3_isInSome 10 = .ok (.aload_n 0, 1) := by decide +kernel
theorem dX3_isInSome_11 : decode cX3_isInSome 11 = .ok (.iload_n 2, 1) := by decide +kernel
theorem dX3_isInSome_12 : decode cX3_isInSome 12 = .ok (.invokevirtual 101, 3) := by decide +kernel
theorem dX3_isInSome_15 : decode cX3_isInSome 15 = .ok (.astore_n 3, 1) := by decide +kernel
theorem dX3_isInSome_16 : decode cX3_isInSome 16 = .ok (.aload_n 3, 1) := by decide +kernel
theorem dX3_isInSome_17 : decode cX3_isInSome 17 = .ok (.ifnull 21, 3) := by decide +kernel
theorem dX3_isInSome_20 : decode cX3_isInSome 20 = .ok (.aload_n 3, 1) := by decide +kernel
theorem dX3_isInSome_21 : decode cX3_isInSome 21 = .ok (.getfield 158, 3) := by decide +kernel
theorem dX3_isInSome_24 : decode cX3_isInSome 24 = .ok (.iload_n 1, 1) := by decide +kernel
theorem dX3_isInSome_25 : decode cX3_isInSome 25 = .ok (.if_icmp .eq 11, 3) := by decide +kernel
theorem dX3_isInSome_28 : decode cX3_isInSome 28 = .ok (.aload_n 3, 1) := by decide +kernel
theorem dX3_isInSome_29 : decode cX3_isInSome 29 = .ok (.getfield 161, 3) := by decide +kernel
theorem dX3_isInSome_32 : decode cX3_isInSome 32 = .ok (.iload_n 1, 1) := by decide +kernel
theorem dX3_isInSome_33 : decode cX3_isInSome 33 = .ok (.if_icmp .ne 5, 3) := by decide +kernel
theorem dX3_isInSome_36 : decode cX3_isInSome 36 = .ok (.iconst 1, 1) := by decide +kernel
theorem dX3_isInSome_37 : decode cX3_isInSome 37 = .ok (.ireturn, 1) := by decide +kernel
theorem dX3_isInSome_38 : decode cX3_isInSome 38 = .ok (.iinc 2 1, 3) := by decide +kernel
theorem dX3_isInSome_41 : decode cX3_isInSome 41 = .ok (.goto (-39), 3) := by decide +kernel
theorem dX3_isInSome_44 : decode cX3_isInSome 44 = .ok (.iconst 0, 1) := by decide +kernel
theorem dX3_isInSome_45 : decode cX3_isInSome 45 = .ok (.ireturn, 1) := by decide +kernel
theorem dX3_serveAgain_0 : decode cX3_serveAgain 0 = .ok (.iconst 0, 1) := by decide +kernel
theorem dX3_serveAgain_1 : decode cX3_serveAgain 1 = .ok (.istore_n 1, 1) := by decide +kernel
theorem dX3_serveAgain_2 : decode cX3_serveAgain 2 = .ok (.iload_n 1, 1) := by decide +kernel
theorem dX3_serveAgain_3 : decode cX3_serveAgain 3 = .ok (.sipush 341, 3) := by decide +kernel
theorem dX3_serveAgain_6 : decode cX3_serveAgain 6 = .ok (.if_icmp .ge 23, 3) := by decide +kernel
theorem dX3_serveAgain_9 : decode cX3_serveAgain 9 = .ok (.aload_n 0, 1) := by decide +kernel
theorem dX3_serveAgain_10 : decode cX3_serveAgain 10 = .ok (.getfield 34, 3) := by decide +kernel
theorem dX3_serveAgain_13 : decode cX3_serveAgain 13 = .ok (.iload_n 1, 1) := by decide +kernel
theorem dX3_serveAgain_14 : decode cX3_serveAgain 14 = .ok (.iconst (-1), 1) := by decide +kernel
theorem dX3_serveAgain_15 : decode cX3_serveAgain 15 = .ok (.iastore, 1) := by decide +kernel
theorem dX3_serveAgain_16 : decode cX3_serveAgain 16 = .ok (.aload_n 0, 1) := by decide +kernel
theorem dX3_serveAgain_17 : decode cX3_serveAgain 17 = .ok (.getfield 37, 3) := by decide +kernel
theorem dX3_serveAgain_20 : decode cX3_serveAgain 20 = .ok (.iload_n 1, 1) := by decide +kernel
theorem dX3_serveAgain_21 : decode cX3_serveAgain 21 = .ok (.iconst 0, 1) := by decide +kernel
theorem dX3_serveAgain_22 : decode cX3_serveAgain 22 = .ok (.iastore, 1) := by decide +kernel
theorem dX3_serveAgain_23 : decode cX3_serveAgain 23 = .ok (.iinc 1 1, 3) := by decide +kernel
theorem dX3_serveAgain_26 : decode cX3_serveAgain 26 = .ok (.goto (-24), 3) := by decide +kernel
theorem dX3_serveAgain_29 : decode cX3_serveAgain 29 = .ok (.iconst 0, 1) := by decide +kernel
theorem dX3_serveAgain_30 : decode cX3_serveAgain 30 = .ok (.istore_n 1, 1) := by decide +kernel
theorem dX3_serveAgain_31 : decode cX3_serveAgain 31 = .ok (.iload_n 1, 1) := by decide +kernel
theorem dX3_serveAgain_32 : decode cX3_serveAgain 32 = .ok (.aload_n 0, 1) := by decide +kernel
theorem dX3_serveAgain_33 : decode cX3_serveAgain 33 = .ok (.getfield 82, 3) := by decide +kernel
theorem dX3_serveAgain_36 : decode cX3_serveAgain 36 = .ok (.if_icmp .ge 31, 3) := by decide +kernel
theorem dX3_serveAgain_39 : decode cX3_serveAgain 39 = .ok (.aload_n 0, 1) := by decide +kernel
theorem dX3_serveAgain_40 : decode cX3_serveAgain 40 = .ok (.iload_n 1, 1) := by decide +kernel
theorem dX3_serveAgain_41 : decode cX3_serveAgain 41 = .ok (.invokevirtual 101, 3) := by decide +kernel
theorem dX3_serveAgain_44 : decode cX3_serveAgain 44 = .ok (.astore_n 2, 1) := by decide +kernel
theorem dX3_serveAgain_45 : decode cX3_serveAgain 45 = .ok (.aload_n 2, 1) := by decide +kernel
theorem dX3_serveAgain_46 : decode cX3_serveAgain 46 = .ok (.ifnull 15, 3) := by decide +kernel
theorem dX3_serveAgain_49 : decode cX3_serveAgain 49 = .ok (.aload_n 0, 1) := by decide +kernel
theorem dX3_serveAgain_50 : decode cX3_serveAgain 50 = .ok (.aload_n 2, 1) := by decide +kernel
theorem dX3_serveAgain_51 : decode cX3_serveAgain 51 = .ok (.getfield 107, 3) := by decide +kernel
theorem dX3_serveAgain_54 : decode cX3_serveAgain 54 = .ok (.invokestatic 52, 3) := by decide +kernel
theorem dX3_serveAgain_57 : decode cX3_serveAgain 57 = .ok (.iload_n 1, 1) := by decide +kernel
theorem dX3_serveAgain_58 : decode cX3_serveAgain 58 = .ok (.invokevirtual 268, 3) := by decide +kernel
theorem dX3_serveAgain_61 : decode cX3_serveAgain 61 = .ok (.iinc 1 1, 3) := by decide +kernel
theorem dX3_serveAgain_64 : decode cX3_serveAgain 64 = .ok (.goto (-33), 3) := by decide +kernel
theorem dX3_serveAgain_67 : decode cX3_serveAgain 67 = .ok (.return_, 1) := by decide +kernel
theorem dX3_serveBehind_0 : decode cX3_serveBehind 0 = .ok (.iconst 0, 1) := by decide +kernel
theorem dX3_serveBehind_1 : decode cX3_serveBehind 1 = .ok (.istore_n 3, 1) := by decide +kernel
theorem dX3_serveBehind_2 : decode cX3_serveBehind 2 = .ok (.iconst 1, 1) := by decide +kernel
theorem dX3_serveBehind_3 : decode cX3_serveBehind 3 = .ok (.istore 4, 2) := by decide +kernel
theorem dX3_serveBehind_5 : decode cX3_serveBehind 5 = .ok (.iconst 0, 1) := by decide +kernel
theorem dX3_serveBehind_6 : decode cX3_serveBehind 6 = .ok (.istore 5, 2) := by decide +kernel
theorem dX3_serveBehind_8 : decode cX3_serveBehind 8 = .ok (.iload 5, 2) := by decide +kernel
theorem dX3_serveBehind_10 : decode cX3_serveBehind 10 = .ok (.iconst 4, 1) := by decide +kernel
theorem dX3_serveBehind_11 : decode cX3_serveBehind 11 = .ok (.if_icmp .gt 76, 3) := by decide +kernel
theorem dX3_serveBehind_14 : decode cX3_serveBehind 14 = .ok (.iload_n 1, 1) := by decide +kernel
theorem dX3_serveBehind_15 : decode cX3_serveBehind 15 = .ok (.iload 4, 2) := by decide +kernel
theorem dX3_serveBehind_17 : decode cX3_serveBehind 17 = .ok (.imul, 1) := by decide +kernel
theorem dX3_serveBehind_18 : decode cX3_serveBehind 18 = .ok (.istore 6, 2) := by decide +kernel
theorem dX3_serveBehind_20 : decode cX3_serveBehind 20 = .ok (.iload_n 3, 1) := by decide +kernel
theorem dX3_serveBehind_21 : decode cX3_serveBehind 21 = .ok (.istore 7, 2) := by decide +kernel
theorem dX3_serveBehind_23 : decode cX3_serveBehind 23 = .ok (.iload 7, 2) := by decide +kernel
theorem dX3_serveBehind_25 : decode cX3_serveBehind 25 = .ok (.iload_n 3, 1) := by decide +kernel
theorem dX3_serveBehind_26 : decode cX3_serveBehind 26 = .ok (.iload 4, 2) := by decide +kernel
theorem dX3_serveBehind_28 : decode cX3_serveBehind 28 = .ok (.iadd, 1) := by decide +kernel
theorem dX3_serveBehind_29 : decode cX3_serveBehind 29 = .ok (.if_icmp .ge 41, 3) := by decide +kernel
theorem dX3_serveBehind_32 : decode cX3_serveBehind 32 = .ok (.iload 6, 2) := by decide +kernel
theorem dX3_serveBehind_34 : decode cX3_serveBehind 34 = .ok (.iload 7, 2) := by decide +kernel
theorem dX3_serveBehind_36 : decode cX3_serveBehind 36 = .ok (.iadd, 1) := by decide +kernel
theorem dX3_serveBehind_37 : decode cX3_serveBehind 37 = .ok (.istore 8, 2) := by decide +kernel
theorem dX3_serveBehind_39 : decode cX3_serveBehind 39 = .ok (.iload 8, 2) := by decide +kernel
theorem dX3_serveBehind_41 : decode cX3_serveBehind 41 = .ok (.invokestatic 272, 3) := by decide +kernel
theorem dX3_serveBehind_44 : decode cX3_serveBehind 44 = .ok (.ifCond .eq 20, 3) := by decide +kernel
theorem dX3_serveBehind_47 : decode cX3_serveBehind 47 = .ok (.aload_n 0, 1) := by decide +kernel
theorem dX3_serveBehind_48 : decode cX3_serveBehind 48 = .ok (.getfield 34, 3) := by decide +kernel
theorem dX3_serveBehind_51 : decode cX3_serveBehind 51 = .ok (.iload 8, 2) := by decide +kernel
theorem dX3_serveBehind_53 : decode cX3_serveBehind 53 = .ok (.iload_n 2, 1) := by decide +kernel
theorem dX3_serveBehind_54 : decode cX3_serveBehind 54 = .ok (.iastore, 1) := by decide +kernel
theorem dX3_serveBehind_55 : decode cX3_serveBehind 55 = .ok (.aload_n 0, 1) := by decide +kernel
theorem dX3_serveBehind_56 : decode cX3_serveBehind 56 = .ok (.getfield 37, 3) := by decide +kernel
theorem dX3_serveBehind_59 : decode cX3_serveBehind 59 = .ok (.iload 8, 2) := by decide +kernel
theorem dX3_serveBehind_61 : decode cX3_serveBehind 61 = .ok (.iload 7, 2) := by decide +kernel
theorem dX3_serveBehind_63 : decode cX3_serveBehind 63 = .ok (.iastore, 1) := by decide +kernel
theorem dX3_serveBehind_64 : decode cX3_serveBehind 64 = .ok (.iinc 7 1, 3) := by decide +kernel
theorem dX3_serveBehind_67 : decode cX3_serveBehind 67 = .ok (.goto (-44), 3) := by decide +kernel
theorem dX3_serveBehind_70 : decode cX3_serveBehind 70 = .ok (.iload_n 3, 1) := by decide +kernel
theorem dX3_serveBehind_71 : decode cX3_serveBehind 71 = .ok (.iload 4, 2) := by decide +kernel
theorem dX3_serveBehind_73 : decode cX3_serveBehind 73 = .ok (.iadd, 1) := by decide +kernel
theorem dX3_serveBehind_74 : decode cX3_serveBehind 74 = .ok (.istore_n 3, 1) := by decide +kernel
theorem dX3_serveBehind_75 : decode cX3_serveBehind 75 = .ok (.iload 4, 2) := by decide +kernel
theorem dX3_serveBehind_77 : decode cX3_serveBehind 77 = .ok (.iconst 4, 1) := by decide +kernel
theorem dX3_serveBehind_78 : decode cX3_serveBehind 78 = .ok (.imul, 1) := by decide +kernel
theorem dX3_serveBehind_79 : decode cX3_serveBehind 79 = .ok (.istore 4, 2) := by decide +kernel
theorem dX3_serveBehind_81 : decode cX3_serveBehind 81 = .ok (.iinc 5 1, 3) := by decide +kernel
theorem dX3_serveBehind_84 : decode cX3_serveBehind 84 = .ok (.goto (-76), 3) := by decide +kernel
theorem dX3_serveBehind_87 : decode cX3_serveBehind 87 = .ok (.return_, 1) := by decide +kernel
theorem dX3_serverAt_0 : decode cX3_serverAt 0 = .ok (.iload_n 1, 1) := by decide +kernel
theorem dX3_serverAt_1 : decode cX3_serverAt 1 = .ok (.invokestatic 272, 3) := by decide +kernel
theorem dX3_serverAt_4 : decode cX3_serverAt 4 = .ok (.ifCond .eq 12, 3) := by decide +kernel
theorem dX3_serverAt_7 : decode cX3_serverAt 7 = .ok (.aload_n 0, 1) := by decide +kernel
theorem dX3_serverAt_8 : decode cX3_serverAt 8 = .ok (.getfield 34, 3) := by decide +kernel
theorem dX3_serverAt_11 : decode cX3_serverAt 11 = .ok (.iload_n 1, 1) := by decide +kernel
theorem dX3_serverAt_12 : decode cX3_serverAt 12 = .ok (.iaload, 1) := by decide +kernel
theorem dX3_serverAt_13 : decode cX3_serverAt 13 = .ok (.goto 4, 3) := by decide +kernel
theorem dX3_serverAt_16 : decode cX3_serverAt 16 = .ok (.iconst (-1), 1) := by decide +kernel
theorem dX3_serverAt_17 : decode cX3_serverAt 17 = .ok (.ireturn, 1) := by decide +kernel
theorem dX3_restAt_0 : decode cX3_restAt 0 = .ok (.iload_n 1, 1) := by decide +kernel
theorem dX3_restAt_1 : decode cX3_restAt 1 = .ok (.invokestatic 272, 3) := by decide +kernel
theorem dX3_restAt_4 : decode cX3_restAt 4 = .ok (.ifCond .eq 12, 3) := by decide +kernel
theorem dX3_restAt_7 : decode cX3_restAt 7 = .ok (.aload_n 0, 1) := by decide +kernel
theorem dX3_restAt_8 : decode cX3_restAt 8 = .ok (.getfield 37, 3) := by decide +kernel
theorem dX3_restAt_11 : decode cX3_restAt 11 = .ok (.iload_n 1, 1) := by decide +kernel
theorem dX3_restAt_12 : decode cX3_restAt 12 = .ok (.iaload, 1) := by decide +kernel
theorem dX3_restAt_13 : decode cX3_restAt 13 = .ok (.goto 4, 3) := by decide +kernel
theorem dX3_restAt_16 : decode cX3_restAt 16 = .ok (.iconst 0, 1) := by decide +kernel
theorem dX3_restAt_17 : decode cX3_restAt 17 = .ok (.ireturn, 1) := by decide +kernel
theorem dX3_isThing_0 : decode cX3_isThing 0 = .ok (.iload_n 0, 1) := by decide +kernel
theorem dX3_isThing_1 : decode cX3_isThing 1 = .ok (.iconst 1, 1) := by decide +kernel
theorem dX3_isThing_2 : decode cX3_isThing 2 = .ok (.if_icmp .eq 8, 3) := by decide +kernel
theorem dX3_isThing_5 : decode cX3_isThing 5 = .ok (.iload_n 0, 1) := by decide +kernel
theorem dX3_isThing_6 : decode cX3_isThing 6 = .ok (.iconst 2, 1) := by decide +kernel
theorem dX3_isThing_7 : decode cX3_isThing 7 = .ok (.if_icmp .ne 7, 3) := by decide +kernel
theorem dX3_isThing_10 : decode cX3_isThing 10 = .ok (.iconst 1, 1) := by decide +kernel
theorem dX3_isThing_11 : decode cX3_isThing 11 = .ok (.goto 4, 3) := by decide +kernel
theorem dX3_isThing_14 : decode cX3_isThing 14 = .ok (.iconst 0, 1) := by decide +kernel
theorem dX3_isThing_15 : decode cX3_isThing 15 = .ok (.ireturn, 1) := by decide +kernel
theorem dX3_kindIn_0 : decode cX3_kindIn 0 = .ok (.aload_n 0, 1) := by decide +kernel
theorem dX3_kindIn_1 : decode cX3_kindIn 1 = .ok (.iload_n 1, 1) := by decide +kernel
theorem dX3_kindIn_2 : decode cX3_kindIn 2 = .ok (.invokevirtual 61, 3) := by decide +kernel
theorem dX3_kindIn_5 : decode cX3_kindIn 5 = .ok (.astore_n 3, 1) := by decide +kernel
theorem dX3_kindIn_6 : decode cX3_kindIn 6 = .ok (.aload_n 3, 1) := by decide +kernel
theorem dX3_kindIn_7 : decode cX3_kindIn 7 = .ok (.ifnonnull 7, 3) := by decide +kernel
theorem dX3_kindIn_10 : decode cX3_kindIn 10 = .ok (.iconst 0, 1) := by decide +kernel
theorem dX3_kindIn_11 : decode cX3_kindIn 11 = .ok (.goto 8, 3) := by decide +kernel
theorem dX3_kindIn_14 : decode cX3_kindIn 14 = .ok (.aload_n 3, 1) := by decide +kernel
theorem dX3_kindIn_15 : decode cX3_kindIn 15 = .ok (.iload_n 2, 1) := by decide +kernel
theorem dX3_kindIn_16 : decode cX3_kindIn 16 = .ok (.invokevirtual 275, 3) := by decide +kernel
theorem dX3_kindIn_19 : decode cX3_kindIn 19 = .ok (.ireturn, 1) := by decide +kernel
theorem dX3_fileSizeIn_0 : decode cX3_fileSizeIn 0 = .ok (.aload_n 0, 1) := by decide +kernel
theorem dX3_fileSizeIn_1 : decode cX3_fileSizeIn 1 = .ok (.iload_n 1, 1) := by decide +kernel
theorem dX3_fileSizeIn_2 : decode cX3_fileSizeIn 2 = .ok (.invokevirtual 61, 3) := by decide +kernel
theorem dX3_fileSizeIn_5 : decode cX3_fileSizeIn 5 = .ok (.astore_n 3, 1) := by decide +kernel
theorem dX3_fileSizeIn_6 : decode cX3_fileSizeIn 6 = .ok (.aload_n 3, 1) := by decide +kernel
theorem dX3_fileSizeIn_7 : decode cX3_fileSizeIn 7 = .ok (.ifnonnull 7, 3) := by decide +kernel
theorem dX3_fileSizeIn_10 : decode cX3_fileSizeIn 10 = .ok (.iconst (-1), 1) := by decide +kernel
theorem dX3_fileSizeIn_11 : decode cX3_fileSizeIn 11 = .ok (.goto 8, 3) := by decide +kernel
theorem dX3_fileSizeIn_14 : decode cX3_fileSizeIn 14 = .ok (.aload_n 3, 1) := by decide +kernel
theorem dX3_fileSizeIn_15 : decode cX3_fileSizeIn 15 = .ok (.iload_n 2, 1) := by decide +kernel
theorem dX3_fileSizeIn_16 : decode cX3_fileSizeIn 16 = .ok (.invokevirtual 278, 3) := by decide +kernel
theorem dX3_fileSizeIn_19 : decode cX3_fileSizeIn 19 = .ok (.ireturn, 1) := by decide +kernel
theorem dX3_layerShownBy_0 : decode cX3_layerShownBy 0 = .ok (.aload_n 1, 1) := by decide +kernel
theorem dX3_layerShownBy_1 : decode cX3_layerShownBy 1 = .ok (.ifnonnull 5, 3) := by decide +kernel
theorem dX3_layerShownBy_4 : decode cX3_layerShownBy 4 = .ok (.iconst (-1), 1) := by decide +kernel
theorem dX3_layerShownBy_5 : decode cX3_layerShownBy 5 = .ok (.ireturn, 1) := by decide +kernel
theorem dX3_layerShownBy_6 : decode cX3_layerShownBy 6 = .ok (.aload_n 0, 1) := by decide +kernel
theorem dX3_layerShownBy_7 : decode cX3_layerShownBy 7 = .ok (.aload_n 1, 1) := by decide +kernel
theorem dX3_layerShownBy_8 : decode cX3_layerShownBy 8 = .ok (.getfield 158, 3) := by decide +kernel
theorem dX3_layerShownBy_11 : decode cX3_layerShownBy 11 = .ok (.iload_n 2, 1) := by decide +kernel
theorem dX3_layerShownBy_12 : decode cX3_layerShownBy 12 = .ok (.invokevirtual 164, 3) := by decide +kernel
theorem dX3_layerShownBy_15 : decode cX3_layerShownBy 15 = .ok (.istore_n 3, 1) := by decide +kernel
theorem dX3_layerShownBy_16 : decode cX3_layerShownBy 16 = .ok (.iload_n 3, 1) := by decide +kernel
theorem dX3_layerShownBy_17 : decode cX3_layerShownBy 17 = .ok (.ifCond .eq 19, 3) := by decide +kernel
theorem dX3_layerShownBy_20 : decode cX3_layerShownBy 20 = .ok (.iload_n 3, 1) := by decide +kernel
theorem dX3_layerShownBy_21 : decode cX3_layerShownBy 21 = .ok (.invokestatic 167, 3) := by decide +kernel
theorem dX3_layerShownBy_24 : decode cX3_layerShownBy 24 = .ok (.ifCond .eq 10, 3) := by decide +kernel
theorem dX3_layerShownBy_27 : decode cX3_layerShownBy 27 = .ok (.aload_n 1, 1) := by decide +kernel
theorem dX3_layerShownBy_28 : decode cX3_layerShownBy 28 = .ok (.getfield 158, 3) := by decide +kernel
theorem dX3_layerShownBy_31 : decode cX3_layerShownBy 31 = .ok (.goto 4, 3) := by decide +kernel
theorem dX3_layerShownBy_34 : decode cX3_layerShownBy 34 = .ok (.iconst (-1), 1) := by decide +kernel
theorem dX3_layerShownBy_35 : decode cX3_layerShownBy 35 = .ok (.ireturn, 1) := by decide +kernel
theorem dX3_layerShownBy_36 : decode cX3_layerShownBy 36 = .ok (.aload_n 0, 1) := by decide +kernel
theorem dX3_layerShownBy_37 : decode cX3_layerShownBy 37 = .ok (.aload_n 1, 1) := by decide +kernel
theorem dX3_layerShownBy_38 : decode cX3_layerShownBy 38 = .ok (.getfield 161, 3) := by decide +kernel
theorem dX3_layerShownBy_41 : decode cX3_layerShownBy 41 = .ok (.iload_n 2, 1) := by decide +kernel
theorem dX3_layerShownBy_42 : decode cX3_layerShownBy 42 = .ok (.invokevirtual 164, 3) := by decide +kernel
theorem dX3_layerShownBy_45 : decode cX3_layerShownBy 45 = .ok (.invokestatic 167, 3) := by decide +kernel
theorem dX3_layerShownBy_48 : decode cX3_layerShownBy 48 = .ok (.ifCond .eq 10, 3) := by decide +kernel
theorem dX3_layerShownBy_51 : decode cX3_layerShownBy 51 = .ok (.aload_n 1, 1) := by decide +kernel
theorem dX3_layerShownBy_52 : decode cX3_layerShownBy 52 = .ok (.getfield 161, 3) := by decide +kernel
theorem dX3_layerShownBy_55 : decode cX3_layerShownBy 55 = .ok (.goto 4, 3) := by decide +kernel
theorem dX3_layerShownBy_58 : decode cX3_layerShownBy 58 = .ok (.iconst (-1), 1) := by decide +kernel
theorem dX3_layerShownBy_59 : decode cX3_layerShownBy 59 = .ok (.ireturn, 1) := by decide +kernel
theorem dX3_layerShown_0 : decode cX3_layerShown 0 = .ok (.aload_n 0, 1) := by decide +kernel
theorem dX3_layerShown_1 : decode cX3_layerShown 1 = .ok (.aload_n 0, 1) := by decide +kernel
theorem dX3_layerShown_2 : decode cX3_layerShown 2 = .ok (.aload_n 0, 1) := by decide +kernel
theorem dX3_layerShown_3 : decode cX3_layerShown 3 = .ok (.iload_n 1, 1) := by decide +kernel
theorem dX3_layerShown_4 : decode cX3_layerShown 4 = .ok (.invokevirtual 113, 3) := by decide +kernel
theorem dX3_layerShown_7 : decode cX3_layerShown 7 = .ok (.invokevirtual 101, 3) := by decide +kernel
theorem dX3_layerShown_10 : decode cX3_layerShown 10 = .ok (.aload_n 0, 1) := by decide +kernel
theorem dX3_layerShown_11 : decode cX3_layerShown 11 = .ok (.iload_n 1, 1) := by decide +kernel
theorem dX3_layerShown_12 : decode cX3_layerShown 12 = .ok (.invokevirtual 133, 3) := by decide +kernel
theorem dX3_layerShown_15 : decode cX3_layerShown 15 = .ok (.invokevirtual 194, 3) := by decide +kernel
theorem dX3_layerShown_18 : decode cX3_layerShown 18 = .ok (.ireturn, 1) := by decide +kernel
theorem dX3_checkedShown_0 : decode cX3_checkedShown 0 = .ok (.aload_n 0, 1) := by decide +kernel
theorem dX3_checkedShown_1 : decode cX3_checkedShown 1 = .ok (.aload_n 0, 1) := by decide +kernel
theorem dX3_checkedShown_2 : decode cX3_checkedShown 2 = .ok (.iload_n 1, 1) := by decide +kernel
theorem dX3_checkedShown_3 : decode cX3_checkedShown 3 = .ok (.invokevirtual 178, 3) := by decide +kernel
theorem dX3_checkedShown_6 : decode cX3_checkedShown 6 = .ok (.invokevirtual 61, 3) := by decide +kernel
theorem dX3_checkedShown_9 : decode cX3_checkedShown 9 = .ok (.astore_n 2, 1) := by decide +kernel
theorem dX3_checkedShown_10 : decode cX3_checkedShown 10 = .ok (.aload_n 2, 1) := by decide +kernel
theorem dX3_checkedShown_11 : decode cX3_checkedShown 11 = .ok (.ifnonnull 13, 3) := by decide +kernel
theorem dX3_checkedShown_14 : decode cX3_checkedShown 14 = .ok (.new 116, 3) := by decide +kernel
theorem dX3_checkedShown_17 : decode cX3_checkedShown 17 = .ok (.dup, 1) := by decide +kernel
theorem dX3_checkedShown_18 : decode cX3_checkedShown 18 = .ok (.ldc 181, 2) := by decide +kernel
theorem dX3_checkedShown_20 : decode cX3_checkedShown 20 = .ok (.invokespecial 120, 3) := by decide +kernel
theorem dX3_checkedShown_23 : decode cX3_checkedShown 23 = .ok (.athrow, 1) := by decide +kernel
theorem dX3_checkedShown_24 : decode cX3_checkedShown 24 = .ok (.aload_n 2, 1) := by decide +kernel
theorem dX3_checkedShown_25 : decode cX3_checkedShown 25 = .ok (.areturn, 1) := by decide +kernel
theorem dX3_shownFileSize_0 : decode cX3_shownFileSize 0 = .ok (.aload_n 0, 1) := by decide +kernel
theorem dX3_shownFileSize_1 : decode cX3_shownFileSize 1 = .ok (.aload_n 0, 1) := by decide +kernel
theorem dX3_shownFileSize_2 : decode cX3_shownFileSize 2 = .ok (.iload_n 1, 1) := by decide +kernel
theorem dX3_shownFileSize_3 : decode cX3_shownFileSize 3 = .ok (.invokevirtual 178, 3) := by decide +kernel
theorem dX3_shownFileSize_6 : decode cX3_shownFileSize 6 = .ok (.aload_n 0, 1) := by decide +kernel
theorem dX3_shownFileSize_7 : decode cX3_shownFileSize 7 = .ok (.iload_n 1, 1) := by decide +kernel
theorem dX3_shownFileSize_8 : decode cX3_shownFileSize 8 = .ok (.invokevirtual 133, 3) := by decide +kernel
theorem dX3_shownFileSize_11 : decode cX3_shownFileSize 11 = .ok (.invokevirtual 198, 3) := by decide +kernel
theorem dX3_shownFileSize_14 : decode cX3_shownFileSize 14 = .ok (.ireturn, 1) := by decide +kernel
theorem dX3_shownBytes_0 : decode cX3_shownBytes 0 = .ok (.iconst 0, 1) := by decide +kernel
theorem dX3_shownBytes_1 : decode cX3_shownBytes 1 = .ok (.istore_n 1, 1) := by decide +kernel
theorem dX3_shownBytes_2 : decode cX3_shownBytes 2 = .ok (.iload_n 1, 1) := by decide +kernel
theorem dX3_shownBytes_3 : decode cX3_shownBytes 3 = .ok (.aload_n 0, 1) := by decide +kernel
theorem dX3_shownBytes_4 : decode cX3_shownBytes 4 = .ok (.getfield 40, 3) := by decide +kernel
theorem dX3_shownBytes_7 : decode cX3_shownBytes 7 = .ok (.if_icmp .ge 23, 3) := by decide +kernel
theorem dX3_shownBytes_10 : decode cX3_shownBytes 10 = .ok (.aload_n 0, 1) := by decide +kernel
theorem dX3_shownBytes_11 : decode cX3_shownBytes 11 = .ok (.iload_n 1, 1) := by decide +kernel
theorem dX3_shownBytes_12 : decode cX3_shownBytes 12 = .ok (.invokevirtual 61, 3) := by decide +kernel
theorem dX3_shownBytes_15 : decode cX3_shownBytes 15 = .ok (.astore_n 2, 1) := by decide +kernel
theorem dX3_shownBytes_16 : decode cX3_shownBytes 16 = .ok (.aload_n 2, 1) := by decide +kernel
theorem dX3_shownBytes_17 : decode cX3_shownBytes 17 = .ok (.ifnull 7, 3) := by decide +kernel
theorem dX3_shownBytes_20 : decode cX3_shownBytes 20 = .ok (.aload_n 2, 1) := by decide +kernel
theorem dX3_shownBytes_21 : decode cX3_shownBytes 21 = .ok (.invokevirtual 281, 3) := by decide +kernel
theorem dX3_shownBytes_24 : decode cX3_shownBytes 24 = .ok (.iinc 1 1, 3) := by decide +kernel
theorem dX3_shownBytes_27 : decode cX3_shownBytes 27 = .ok (.goto (-25), 3) := by decide +kernel
theorem dX3_shownBytes_30 : decode cX3_shownBytes 30 = .ok (.iconst 0, 1) := by decide +kernel
theorem dX3_shownBytes_31 : decode cX3_shownBytes 31 = .ok (.istore_n 1, 1) := by decide +kernel
theorem dX3_shownBytes_32 : decode cX3_shownBytes 32 = .ok (.iconst 1, 1) := by decide +kernel
theorem dX3_shownBytes_33 : decode cX3_shownBytes 33 = .ok (.istore_n 2, 1) := by decide +kernel
theorem dX3_shownBytes_34 : decode cX3_shownBytes 34 = .ok (.iload_n 2, 1) := by decide +kernel
theorem dX3_shownBytes_35 : decode cX3_shownBytes 35 = .ok (.sipush 341, 3) := by decide +kernel
theorem dX3_shownBytes_38 : decode cX3_shownBytes 38 = .ok (.if_icmp .ge 35, 3) := by decide +kernel
theorem dX3_shownBytes_41 : decode cX3_shownBytes 41 = .ok (.aload_n 0, 1) := by decide +kernel
theorem dX3_shownBytes_42 : decode cX3_shownBytes 42 = .ok (.aload_n 0, 1) := by decide +kernel
theorem dX3_shownBytes_43 : decode cX3_shownBytes 43 = .ok (.iload_n 2, 1) := by decide +kernel
theorem dX3_shownBytes_44 : decode cX3_shownBytes 44 = .ok (.invokevirtual 178, 3) := by decide +kernel
theorem dX3_shownBytes_47 : decode cX3_shownBytes 47 = .ok (.invokevirtual 61, 3) := by decide +kernel
theorem dX3_shownBytes_50 : decode cX3_shownBytes 50 = .ok (.astore_n 3, 1) := by decide +kernel
theorem dX3_shownBytes_51 : decode cX3_shownBytes 51 = .ok (.aload_n 3, 1) := by decide +kernel
theorem dX3_shownBytes_52 : decode cX3_shownBytes 52 = .ok (.ifnull 15, 3) := by decide +kernel
theorem dX3_shownBytes_55 : decode cX3_shownBytes 55 = .ok (.iload_n 1, 1) := by decide +kernel
theorem dX3_shownBytes_56 : decode cX3_shownBytes 56 = .ok (.aload_n 3, 1) := by decide +kernel
theorem dX3_shownBytes_57 : decode cX3_shownBytes 57 = .ok (.aload_n 0, 1) := by decide +kernel
theorem dX3_shownBytes_58 : decode cX3_shownBytes 58 = .ok (.iload_n 2, 1) := by decide +kernel
theorem dX3_shownBytes_59 : decode cX3_shownBytes 59 = .ok (.invokevirtual 133, 3) := by decide +kernel
theorem dX3_shownBytes_62 : decode cX3_shownBytes 62 = .ok (.invokevirtual 284, 3) := by decide +kernel
theorem dX3_shownBytes_65 : decode cX3_shownBytes 65 = .ok (.iadd, 1) := by decide +kernel
theorem dX3_shownBytes_66 : decode cX3_shownBytes 66 = .ok (.istore_n 1, 1) := by decide +kernel
theorem dX3_shownBytes_67 : decode cX3_shownBytes 67 = .ok (.iinc 2 1, 3) := by decide +kernel
theorem dX3_shownBytes_70 : decode cX3_shownBytes 70 = .ok (.goto (-36), 3) := by decide +kernel
theorem dX3_shownBytes_73 : decode cX3_shownBytes 73 = .ok (.iload_n 1, 1) := by decide +kernel
theorem dX3_shownBytes_74 : decode cX3_shownBytes 74 = .ok (.ireturn, 1) := by decide +kernel
theorem dX3_sizeNow_0 : decode cX3_sizeNow 0 = .ok (.iload_n 1, 1) := by decide +kernel
theorem dX3_sizeNow_1 : decode cX3_sizeNow 1 = .ok (.ifCond .eq 11, 3) := by decide +kernel
theorem dX3_sizeNow_4 : decode cX3_sizeNow 4 = .ok (.aload_n 0, 1) := by decide +kernel
theorem dX3_sizeNow_5 : decode cX3_sizeNow 5 = .ok (.iload_n 2, 1) := by decide +kernel
theorem dX3_sizeNow_6 : decode cX3_sizeNow 6 = .ok (.invokevirtual 186, 3) := by decide +kernel
theorem dX3_sizeNow_9 : decode cX3_sizeNow 9 = .ok (.goto 17, 3) := by decide +kernel
theorem dX3_sizeNow_12 : decode cX3_sizeNow 12 = .ok (.aload_n 0, 1) := by decide +kernel
theorem dX3_sizeNow_13 : decode cX3_sizeNow 13 = .ok (.iload_n 2, 1) := by decide +kernel
theorem dX3_sizeNow_14 : decode cX3_sizeNow 14 = .ok (.sipush 341, 3) := by decide +kernel
theorem dX3_sizeNow_17 : decode cX3_sizeNow 17 = .ok (.idiv, 1) := by decide +kernel
theorem dX3_sizeNow_18 : decode cX3_sizeNow 18 = .ok (.iload_n 2, 1) := by decide +kernel
theorem dX3_sizeNow_19 : decode cX3_sizeNow 19 = .ok (.sipush 341, 3) := by decide +kernel
theorem dX3_sizeNow_22 : decode cX3_sizeNow 22 = .ok (.irem, 1) := by decide +kernel
theorem dX3_sizeNow_23 : decode cX3_sizeNow 23 = .ok (.invokevirtual 198, 3) := by decide +kernel
theorem dX3_sizeNow_26 : decode cX3_sizeNow 26 = .ok (.ireturn, 1) := by decide +kernel
theorem dX3_endOfLinks_0 : decode cX3_endOfLinks 0 = .ok (.iload_n 1, 1) := by decide +kernel
theorem dX3_endOfLinks_1 : decode cX3_endOfLinks 1 = .ok (.istore_n 2, 1) := by decide +kernel
theorem dX3_endOfLinks_2 : decode cX3_endOfLinks 2 = .ok (.iconst 0, 1) := by decide +kernel
theorem dX3_endOfLinks_3 : decode cX3_endOfLinks 3 = .ok (.istore_n 3, 1) := by decide +kernel
theorem dX3_endOfLinks_4 : decode cX3_endOfLinks 4 = .ok (.iload_n 3, 1) := by decide +kernel
theorem dX3_endOfLinks_5 : decode cX3_endOfLinks 5 = .ok (.iconst 4, 1) := by decide +kernel
theorem dX3_endOfLinks_6 : decode cX3_endOfLinks 6 = .ok (.if_icmp .gt 90, 3) := by decide +kernel
theorem dX3_endOfLinks_9 : decode cX3_endOfLinks 9 = .ok (.iload_n 2, 1) := by decide +kernel
theorem dX3_endOfLinks_10 : decode cX3_endOfLinks 10 = .ok (.invokestatic 52, 3) := by decide +kernel
theorem dX3_endOfLinks_13 : decode cX3_endOfLinks 13 = .ok (.istore 4, 2) := by decide +kernel
theorem dX3_endOfLinks_15 : decode cX3_endOfLinks 15 = .ok (.aload_n 0, 1) := by decide +kernel
theorem dX3_endOfLinks_16 : decode cX3_endOfLinks 16 = .ok (.aload_n 0, 1) := by decide +kernel
theorem dX3_endOfLinks_17 : decode cX3_endOfLinks 17 = .ok (.iload 4, 2) := by decide +kernel
theorem dX3_endOfLinks_19 : decode cX3_endOfLinks 19 = .ok (.invokevirtual 178, 3) := by decide +kernel
theorem dX3_endOfLinks_22 : decode cX3_endOfLinks 22 = .ok (.invokevirtual 61, 3) := by decide +kernel
theorem dX3_endOfLinks_25 : decode cX3_endOfLinks 25 = .ok (.astore 5, 2) := by decide +kernel
theorem dX3_endOfLinks_27 : decode cX3_endOfLinks 27 = .ok (.aload 5, 2) := by decide +kernel
theorem dX3_endOfLinks_29 : decode cX3_endOfLinks 29 = .ok (.ifnull 18, 3) := by decide +kernel
theorem dX3_endOfLinks_32 : decode cX3_endOfLinks 32 = .ok (.aload 5, 2) := by decide +kernel
theorem dX3_endOfLinks_34 : decode cX3_endOfLinks 34 = .ok (.aload_n 0, 1) := by decide +kernel
theorem dX3_endOfLinks_35 : decode cX3_endOfLinks 35 = .ok (.iload 4, 2) := by decide +kernel
theorem dX3_endOfLinks_37 : decode cX3_endOfLinks 37 = .ok (.invokevirtual 133, 3) := by decide +kernel
theorem dX3_endOfLinks_40 : decode cX3_endOfLinks 40 = .ok (.invokevirtual 275, 3) := by decide +kernel
theorem dX3_endOfLinks_43 : decode cX3_endOfLinks 43 = .ok (.iconst 2, 1) := by decide +kernel
theorem dX3_endOfLinks_44 : decode cX3_endOfLinks 44 = .ok (.if_icmp .eq 5, 3) := by decide +kernel
theorem dX3_endOfLinks_47 : decode cX3_endOfLinks 47 = .ok (.iload_n 2, 1) := by decide +kernel
theorem dX3_endOfLinks_48 : decode cX3_endOfLinks 48 = .ok (.ireturn, 1) := by decide +kernel
theorem dX3_endOfLinks_49 : decode cX3_endOfLinks 49 = .ok (.aload 5, 2) := by decide +kernel
theorem dX3_endOfLinks_51 : decode cX3_endOfLinks 51 = .ok (.aload_n 0, 1) := by decide +kernel
theorem dX3_endOfLinks_52 : decode cX3_endOfLinks 52 = .ok (.iload 4, 2) := by decide +kernel
theorem dX3_endOfLinks_54 : decode cX3_endOfLinks 54 = .ok (.invokevirtual 133, 3) := by decide +kernel
theorem dX3_endOfLinks_57 : decode cX3_endOfLinks 57 = .ok (.invokevirtual 287, 3) := by decide +kernel
theorem dX3_endOfLinks_60 : decode cX3_endOfLinks 60 = .ok (.istore 6, 2) := by decide +kernel
theorem dX3_endOfLinks_62 : decode cX3_endOfLinks 62 = .ok (.aload_n 0, 1) := by decide +kernel
theorem dX3_endOfLinks_63 : decode cX3_endOfLinks 63 = .ok (.iload 4, 2) := by decide +kernel
theorem dX3_endOfLinks_65 : decode cX3_endOfLinks 65 = .ok (.iload 6, 2) := by decide +kernel
theorem dX3_endOfLinks_67 : decode cX3_endOfLinks 67 = .ok (.invokestatic 52, 3) := by decide +kernel
theorem dX3_endOfLinks_70 : decode cX3_endOfLinks 70 = .ok (.invokevirtual 290, 3) := by decide +kernel
theorem dX3_endOfLinks_73 : decode cX3_endOfLinks 73 = .ok (.ifCond .ne 14, 3) := by decide +kernel
theorem dX3_endOfLinks_76 : decode cX3_endOfLinks 76 = .ok (.new 77, 3) := by decide +kernel
theorem dX3_endOfLinks_79 : decode cX3_endOfLinks 79 = .ok (.dup, 1) := by decide +kernel
theorem dX3_endOfLinks_80 : decode cX3_endOfLinks 80 = .ok (.ldc_w 294, 3) := by decide +kernel
theorem dX3_endOfLinks_83 : decode cX3_endOfLinks 83 = .ok (.invokespecial 81, 3) := by decide +kernel
theorem dX3_endOfLinks_86 : decode cX3_endOfLinks 86 = .ok (.athrow, 1) := by decide +kernel
theorem dX3_endOfLinks_87 : decode cX3_endOfLinks 87 = .ok (.iload 6, 2) := by decide +kernel
theorem dX3_endOfLinks_89 : decode cX3_endOfLinks 89 = .ok (.istore_n 2, 1) := by decide +kernel
theorem dX3_endOfLinks_90 : decode cX3_endOfLinks 90 = .ok (.iinc 3 1, 3) := by decide +kernel
theorem dX3_endOfLinks_93 : decode cX3_endOfLinks 93 = .ok (.goto (-89), 3) := by decide +kernel
theorem dX3_endOfLinks_96 : decode cX3_endOfLinks 96 = .ok (.new 44, 3) := by decide +kernel
theorem dX3_endOfLinks_99 : decode cX3_endOfLinks 99 = .ok (.dup, 1) := by decide +kernel
theorem dX3_endOfLinks_100 : decode cX3_endOfLinks 100 = .ok (.ldc_w 296, 3) := by decide +kernel
theorem dX3_endOfLinks_103 : decode cX3_endOfLinks 103 = .ok (.invokespecial 48, 3) := by decide +kernel
theorem dX3_endOfLinks_106 : decode cX3_endOfLinks 106 = .ok (.athrow, 1) := by decide +kernel
theorem dX3_mayLead_0 : decode cX3_mayLead 0 = .ok (.aload_n 0, 1) := by decide +kernel
theorem dX3_mayLead_1 : decode cX3_mayLead 1 = .ok (.aload_n 0, 1) := by decide +kernel
theorem dX3_mayLead_2 : decode cX3_mayLead 2 = .ok (.iload_n 1, 1) := by decide +kernel
theorem dX3_mayLead_3 : decode cX3_mayLead 3 = .ok (.invokevirtual 113, 3) := by decide +kernel
theorem dX3_mayLead_6 : decode cX3_mayLead 6 = .ok (.invokevirtual 101, 3) := by decide +kernel
theorem dX3_mayLead_9 : decode cX3_mayLead 9 = .ok (.astore_n 3, 1) := by decide +kernel
theorem dX3_mayLead_10 : decode cX3_mayLead 10 = .ok (.aload_n 3, 1) := by decide +kernel
theorem dX3_mayLead_11 : decode cX3_mayLead 11 = .ok (.ifnull 27, 3) := by decide +kernel
theorem dX3_mayLead_14 : decode cX3_mayLead 14 = .ok (.aload_n 3, 1) := by decide +kernel
theorem dX3_mayLead_15 : decode cX3_mayLead 15 = .ok (.getfield 110, 3) := by decide +kernel
theorem dX3_mayLead_18 : decode cX3_mayLead 18 = .ok (.ifCond .ne 16, 3) := by decide +kernel
theorem dX3_mayLead_21 : decode cX3_mayLead 21 = .ok (.aload_n 0, 1) := by decide +kernel
theorem dX3_mayLead_22 : decode cX3_mayLead 22 = .ok (.iload_n 1, 1) := by decide +kernel
theorem dX3_mayLead_23 : decode cX3_mayLead 23 = .ok (.invokevirtual 113, 3) := by decide +kernel
theorem dX3_mayLead_26 : decode cX3_mayLead 26 = .ok (.aload_n 0, 1) := by decide +kernel
theorem dX3_mayLead_27 : decode cX3_mayLead 27 = .ok (.iload_n 2, 1) := by decide +kernel
theorem dX3_mayLead_28 : decode cX3_mayLead 28 = .ok (.invokevirtual 113, 3) := by decide +kernel
theorem dX3_mayLead_31 : decode cX3_mayLead 31 = .ok (.if_icmp .ne 7, 3) := by decide +kernel
theorem dX3_mayLead_34 : decode cX3_mayLead 34 = .ok (.iconst 1, 1) := by decide +kernel
theorem dX3_mayLead_35 : decode cX3_mayLead 35 = .ok (.goto 4, 3) := by decide +kernel
theorem dX3_mayLead_38 : decode cX3_mayLead 38 = .ok (.iconst 0, 1) := by decide +kernel
theorem dX3_mayLead_39 : decode cX3_mayLead 39 = .ok (.ireturn, 1) := by decide +kernel
theorem dX3_layerToWrite_0 : decode cX3_layerToWrite 0 = .ok (.aload_n 0, 1) := by decide +kernel
theorem dX3_layerToWrite_1 : decode cX3_layerToWrite 1 = .ok (.aload_n 0, 1) := by decide +kernel
theorem dX3_layerToWrite_2 : decode cX3_layerToWrite 2 = .ok (.iload_n 1, 1) := by decide +kernel
theorem dX3_layerToWrite_3 : decode cX3_layerToWrite 3 = .ok (.invokevirtual 113, 3) := by decide +kernel
theorem dX3_layerToWrite_6 : decode cX3_layerToWrite 6 = .ok (.invokevirtual 101, 3) := by decide +kernel
theorem dX3_layerToWrite_9 : decode cX3_layerToWrite 9 = .ok (.astore_n 2, 1) := by decide +kernel
theorem dX3_layerToWrite_10 : decode cX3_layerToWrite 10 = .ok (.aload_n 2, 1) := by decide +kernel
theorem dX3_layerToWrite_11 : decode cX3_layerToWrite 11 = .ok (.ifnonnull 7, 3) := by decide +kernel
theorem dX3_layerToWrite_14 : decode cX3_layerToWrite 14 = .ok (.aconst_null, 1) := by decide +kernel
theorem dX3_layerToWrite_15 : decode cX3_layerToWrite 15 = .ok (.goto 11, 3) := by decide +kernel
theorem dX3_layerToWrite_18 : decode cX3_layerToWrite 18 = .ok (.aload_n 0, 1) := by decide +kernel
theorem dX3_layerToWrite_19 : decode cX3_layerToWrite 19 = .ok (.aload_n 2, 1) := by decide +kernel
theorem dX3_layerToWrite_20 : decode cX3_layerToWrite 20 = .ok (.invokevirtual 170, 3) := by decide +kernel
theorem dX3_layerToWrite_23 : decode cX3_layerToWrite 23 = .ok (.invokevirtual 61, 3) := by decide +kernel
theorem dX3_layerToWrite_26 : decode cX3_layerToWrite 26 = .ok (.astore_n 3, 1) := by decide +kernel
theorem dX3_layerToWrite_27 : decode cX3_layerToWrite 27 = .ok (.aload_n 3, 1) := by decide +kernel
theorem dX3_layerToWrite_28 : decode cX3_layerToWrite 28 = .ok (.ifnull 11, 3) := by decide +kernel
theorem dX3_layerToWrite_31 : decode cX3_layerToWrite 31 = .ok (.aload_n 0, 1) := by decide +kernel
theorem dX3_layerToWrite_32 : decode cX3_layerToWrite 32 = .ok (.iload_n 1, 1) := by decide +kernel
theorem dX3_layerToWrite_33 : decode cX3_layerToWrite 33 = .ok (.invokevirtual 133, 3) := by decide +kernel
theorem dX3_layerToWrite_36 : decode cX3_layerToWrite 36 = .ok (.ifCond .ne 14, 3) := by decide +kernel
theorem dX3_layerToWrite_39 : decode cX3_layerToWrite 39 = .ok (.new 116, 3) := by decide +kernel
theorem dX3_layerToWrite_42 : decode cX3_layerToWrite 42 = .ok (.dup, 1) := by decide +kernel
theorem dX3_layerToWrite_43 : decode cX3_layerToWrite 43 = .ok (.ldc_w 298, 3) := by decide +kernel
theorem dX3_layerToWrite_46 : decode cX3_layerToWrite 46 = .ok (.invokespecial 120, 3) := by decide +kernel
theorem dX3_layerToWrite_49 : decode cX3_layerToWrite 49 = .ok (.athrow, 1) := by decide +kernel
theorem dX3_layerToWrite_50 : decode cX3_layerToWrite 50 = .ok (.aload_n 3, 1) := by decide +kernel
theorem dX3_layerToWrite_51 : decode cX3_layerToWrite 51 = .ok (.areturn, 1) := by decide +kernel
theorem dX3_putAt_0 : decode cX3_putAt 0 = .ok (.aload_n 0, 1) := by decide +kernel
theorem dX3_putAt_1 : decode cX3_putAt 1 = .ok (.aload_n 0, 1) := by decide +kernel
theorem dX3_putAt_2 : decode cX3_putAt 2 = .ok (.iload_n 1, 1) := by decide +kernel
theorem dX3_putAt_3 : decode cX3_putAt 3 = .ok (.invokevirtual 113, 3) := by decide +kernel
theorem dX3_putAt_6 : decode cX3_putAt 6 = .ok (.invokevirtual 101, 3) := by decide +kernel
theorem dX3_putAt_9 : decode cX3_putAt 9 = .ok (.astore 6, 2) := by decide +kernel
theorem dX3_putAt_11 : decode cX3_putAt 11 = .ok (.aload 6, 2) := by decide +kernel
theorem dX3_putAt_13 : decode cX3_putAt 13 = .ok (.ifnull 35, 3) := by decide +kernel
theorem dX3_putAt_16 : decode cX3_putAt 16 = .ok (.aload 6, 2) := by decide +kernel
theorem dX3_putAt_18 : decode cX3_putAt 18 = .ok (.getfield 158, 3) := by decide +kernel
theorem dX3_putAt_21 : decode cX3_putAt 21 = .ok (.iconst (-1), 1) := by decide +kernel
theorem dX3_putAt_22 : decode cX3_putAt 22 = .ok (.if_icmp .eq 26, 3) := by decide +kernel
theorem dX3_putAt_25 : decode cX3_putAt 25 = .ok (.aload_n 0, 1) := by decide +kernel
theorem dX3_putAt_26 : decode cX3_putAt 26 = .ok (.iload_n 1, 1) := by decide +kernel
theorem dX3_putAt_27 : decode cX3_putAt 27 = .ok (.invokevirtual 178, 3) := by decide +kernel
theorem dX3_putAt_30 : decode cX3_putAt 30 = .ok (.aload 6, 2) := by decide +kernel
theorem dX3_putAt_32 : decode cX3_putAt 32 = .ok (.getfield 161, 3) := by decide +kernel
theorem dX3_putAt_35 : decode cX3_putAt 35 = .ok (.if_icmp .ne 13, 3) := by decide +kernel
theorem dX3_putAt_38 : decode cX3_putAt 38 = .ok (.aload_n 0, 1) := by decide +kernel
theorem dX3_putAt_39 : decode cX3_putAt 39 = .ok (.dup, 1) := by decide +kernel
theorem dX3_putAt_40 : decode cX3_putAt 40 = .ok (.getfield 219, 3) := by decide +kernel
theorem dX3_putAt_43 : decode cX3_putAt 43 = .ok (.iconst 1, 1) := by decide +kernel
theorem dX3_putAt_44 : decode cX3_putAt 44 = .ok (.iadd, 1) := by decide +kernel
theorem dX3_putAt_45 : decode cX3_putAt 45 = .ok (.putfield 219, 3) := by decide +kernel
theorem dX3_putAt_48 : decode cX3_putAt 48 = .ok (.aload_n 0, 1) := by decide +kernel
theorem dX3_putAt_49 : decode cX3_putAt 49 = .ok (.aload_n 2, 1) := by decide +kernel
theorem dX3_putAt_50 : decode cX3_putAt 50 = .ok (.aload_n 0, 1) := by decide +kernel
theorem dX3_putAt_51 : decode cX3_putAt 51 = .ok (.iload_n 1, 1) := by decide +kernel
theorem dX3_putAt_52 : decode cX3_putAt 52 = .ok (.invokevirtual 133, 3) := by decide +kernel
theorem dX3_putAt_55 : decode cX3_putAt 55 = .ok (.iload_n 3, 1) := by decide +kernel
theorem dX3_putAt_56 : decode cX3_putAt 56 = .ok (.iload 4, 2) := by decide +kernel
theorem dX3_putAt_58 : decode cX3_putAt 58 = .ok (.iload 5, 2) := by decide +kernel
theorem dX3_putAt_60 : decode cX3_putAt 60 = .ok (.invokevirtual 174, 3) := by decide +kernel
theorem dX3_putAt_63 : decode cX3_putAt 63 = .ok (.return_, 1) := by decide +kernel
theorem dX3_change_0 : decode cX3_change 0 = .ok (.aload_n 1, 1) := by decide +kernel
theorem dX3_change_1 : decode cX3_change 1 = .ok (.ifnull 39, 3) := by decide +kernel
theorem dX3_change_4 : decode cX3_change 4 = .ok (.aload_n 0, 1) := by decide +kernel
theorem dX3_change_5 : decode cX3_change 5 = .ok (.aload_n 1, 1) := by decide +kernel
theorem dX3_change_6 : decode cX3_change 6 = .ok (.iload_n 2, 1) := by decide +kernel
theorem dX3_change_7 : decode cX3_change 7 = .ok (.invokevirtual 201, 3) := by decide +kernel
theorem dX3_change_10 : decode cX3_change 10 = .ok (.aload_n 1, 1) := by decide +kernel
theorem dX3_change_11 : decode cX3_change 11 = .ok (.iload_n 2, 1) := by decide +kernel
theorem dX3_change_12 : decode cX3_change 12 = .ok (.invokevirtual 155, 3) := by decide +kernel
theorem dX3_change_15 : decode cX3_change 15 = .ok (.ineg, 1) := by decide +kernel
theorem dX3_change_16 : decode cX3_change 16 = .ok (.invokevirtual 300, 3) := by decide +kernel
theorem dX3_change_19 : decode cX3_change 19 = .ok (.aload_n 1, 1) := by decide +kernel
theorem dX3_change_20 : decode cX3_change 20 = .ok (.iload_n 2, 1) := by decide +kernel
theorem dX3_change_21 : decode cX3_change 21 = .ok (.iload_n 3, 1) := by decide +kernel
theorem dX3_change_22 : decode cX3_change 22 = .ok (.iload 4, 2) := by decide +kernel
theorem dX3_change_24 : decode cX3_change 24 = .ok (.iload 5, 2) := by decide +kernel
theorem dX3_change_26 : decode cX3_change 26 = .ok (.invokevirtual 303, 3) := by decide +kernel
theorem dX3_change_29 : decode cX3_change 29 = .ok (.aload_n 0, 1) := by decide +kernel
theorem dX3_change_30 : decode cX3_change 30 = .ok (.iload 4, 2) := by decide +kernel
theorem dX3_change_32 : decode cX3_change 32 = .ok (.aload_n 1, 1) := by decide +kernel
theorem dX3_change_33 : decode cX3_change 33 = .ok (.iload_n 2, 1) := by decide +kernel
theorem dX3_change_34 : decode cX3_change 34 = .ok (.invokevirtual 155, 3) := by decide +kernel
theorem dX3_change_37 : decode cX3_change 37 = .ok (.invokevirtual 300, 3) := by decide +kernel
theorem dX3_change_40 : decode cX3_change 40 = .ok (.return_, 1) := by decide +kernel
theorem dX4_init_0 : decode cX4_init 0 = .ok (.aload_n 0, 1) := by decide +kernel
theorem dX4_init_1 : decode cX4_init 1 = .ok (.invokespecial 1, 3) := by decide +kernel
theorem dX4_init_4 : decode cX4_init 4 = .ok (.aload_n 0, 1) := by decide +kernel
theorem dX4_init_5 : decode cX4_init 5 = .ok (.sipush 2046, 3) := by decide +kernel
theorem dX4_init_8 : decode cX4_init 8 = .ok (.newarray .int, 2) := by decide +kernel
theorem dX4_init_10 : decode cX4_init 10 = .ok (.putfield 7, 3) := by decide +kernel
theorem dX4_init_13 : decode cX4_init 13 = .ok (.aload_n 0, 1) := by decide +kernel
theorem dX4_init_14 : decode cX4_init 14 = .ok (.sipush 2046, 3) := by decide +kernel
theorem dX4_init_17 : decode cX4_init 17 = .ok (.newarray .int, 2) := by decide +kernel
theorem dX4_init_19 : decode cX4_init 19 = .ok (.putfield 13, 3) := by decide +kernel
theorem dX4_init_22 : decode cX4_init 22 = .ok (.aload_n 0, 1) := by decide +kernel
theorem dX4_init_23 : decode cX4_init 23 = .ok (.sipush 2046, 3) := by decide +kernel
theorem dX4_init_26 : decode cX4_init 26 = .ok (.newarray .int, 2) := by decide +kernel
theorem dX4_init_28 : decode cX4_init 28 = .ok (.putfield 16, 3) := by decide +kernel
theorem dX4_init_31 : decode cX4_init 31 = .ok (.aload_n 0, 1) := by decide +kernel
theorem dX4_init_32 : decode cX4_init 32 = .ok (.bipush 8, 2) := by decide +kernel
theorem dX4_init_34 : decode cX4_init 34 = .ok (.newarray .int, 2) := by decide +kernel
theorem dX4_init_36 : decode cX4_init 36 = .ok (.putfield 19, 3) := by decide +kernel
theorem dX4_init_39 : decode cX4_init 39 = .ok (.aload_n 0, 1) := by decide +kernel
theorem dX4_init_40 : decode cX4_init 40 = .ok (.bipush 8, 2) := by decide +kernel
theorem dX4_init_42 : decode cX4_init 42 = .ok (.newarray .int, 2) := by decide +kernel
theorem dX4_init_44 : decode cX4_init 44 = .ok (.putfield 22, 3) := by decide +kernel
theorem dX4_init_47 : decode cX4_init 47 = .ok (.aload_n 0, 1) := by decide +kernel
theorem dX4_init_48 : decode cX4_init 48 = .ok (.bipush 8, 2) := by decide +kernel
theorem dX4_init_50 : decode cX4_init 50 = .ok (.newarray .int, 2) := by decide +kernel
theorem dX4_init_52 : decode cX4_init 52 = .ok (.putfield 25, 3) := by decide +kernel
theorem dX4_init_55 : decode cX4_init 55 = .ok (.aload_n 0, 1) := by decide +kernel
theorem dX4_init_56 : decode cX4_init 56 = .ok (.bipush 8, 2) := by decide +kernel
theorem dX4_init_58 : decode cX4_init 58 = .ok (.newarray .boolean, 2) := by decide +kernel
theorem dX4_init_60 : decode cX4_init 60 = .ok (.putfield 28, 3) := by decide +kernel
theorem dX4_init_63 : decode cX4_init 63 = .ok (.aload_n 0, 1) := by decide +kernel
theorem dX4_init_64 : decode cX4_init 64 = .ok (.bipush 8, 2) := by decide +kernel
theorem dX4_init_66 : decode cX4_init 66 = .ok (.newarray .boolean, 2) := by decide +kernel
theorem dX4_init_68 : decode cX4_init 68 = .ok (.putfield 32, 3) := by decide +kernel
theorem dX4_init_71 : decode cX4_init 71 = .ok (.aload_n 0, 1) := by decide +kernel
theorem dX4_init_72 : decode cX4_init 72 = .ok (.iconst 4, 1) := by decide +kernel
theorem dX4_init_73 : decode cX4_init 73 = .ok (.newarray .int, 2) := by decide +kernel
theorem dX4_init_75 : decode cX4_init 75 = .ok (.putfield 35, 3) := by decide +kernel
theorem dX4_init_78 : decode cX4_init 78 = .ok (.aload_n 0, 1) := by decide +kernel
theorem dX4_init_79 : decode cX4_init 79 = .ok (.sipush 12276, 3) := by decide +kernel
theorem dX4_init_82 : decode cX4_init 82 = .ok (.newarray .int, 2) := by decide +kernel
theorem dX4_init_84 : decode cX4_init 84 = .ok (.putfield 38, 3) := by decide +kernel
theorem dX4_init_87 : decode cX4_init 87 = .ok (.aload_n 0, 1) := by decide +kernel
theorem dX4_init_88 : decode cX4_init 88 = .ok (.bipush 6, 2) := by decide +kernel
theorem dX4_init_90 : decode cX4_init 90 = .ok (.newarray .boolean, 2) := by decide +kernel
theorem dX4_init_92 : decode cX4_init 92 = .ok (.putfield 41, 3) := by decide +kernel
theorem dX4_init_95 : decode cX4_init 95 = .ok (.iconst 0, 1) := by decide +kernel
theorem dX4_init_96 : decode cX4_init 96 = .ok (.istore_n 1, 1) := by decide +kernel
theorem dX4_init_97 : decode cX4_init 97 = .ok (.iload_n 1, 1) := by decide +kernel
theorem dX4_init_98 : decode cX4_init 98 = .ok (.iconst 4, 1) := by decide +kernel
theorem dX4_init_99 : decode cX4_init 99 = .ok (.if_icmp .ge 18, 3) := by decide +kernel
theorem dX4_init_102 : decode cX4_init 102 = .ok (.aload_n 0, 1) := by decide +kernel
theorem dX4_init_103 : decode cX4_init 103 = .ok (.getfield 35, 3) := by decide +kernel
theorem dX4_init_106 : decode cX4_init 106 = .ok (.iload_n 1, 1) := by decide +kernel
theorem dX4_init_107 : decode cX4_init 107 = .ok (.sipush 20000, 3) := by decide +kernel
theorem dX4_init_110 : decode cX4_init 110 = .ok (.iastore, 1) := by decide +kernel
theorem dX4_init_111 : decode cX4_init 111 = .ok (.iinc 1 1, 3) := by decide +kernel
theorem dX4_init_114 : decode cX4_init 114 = .ok (.goto (-17), 3) := by decide +kernel
theorem dX4_init_117 : decode cX4_init 117 = .ok (.return_, 1) := by decide +kernel
theorem dX4_thrown_0 : decode cX4_thrown 0 = .ok (.aload_n 0, 1) := by decide +kernel
theorem dX4_thrown_1 : decode cX4_thrown 1 = .ok (.getfield 44, 3) := by decide +kernel
theorem dX4_thrown_4 : decode cX4_thrown 4 = .ok (.ireturn, 1) := by decide +kernel
theorem dX4_in_0 : decode cX4_in 0 = .ok (.lload_n 0, 1) := by decide +kernel
theorem dX4_in_1 : decode cX4_in 1 = .ok (.lload_n 2, 1) := by decide +kernel
theorem dX4_in_2 : decode cX4_in 2 = .ok (.lcmp, 1) := by decide +kernel
theorem dX4_in_3 : decode cX4_in 3 = .ok (.ifCond .lt 14, 3) := by decide +kernel
theorem dX4_in_6 : decode cX4_in 6 = .ok (.lload_n 0, 1) := by decide +kernel
theorem dX4_in_7 : decode cX4_in 7 = .ok (.lload 4, 2) := by decide +kernel
theorem dX4_in_9 : decode cX4_in 9 = .ok (.lcmp, 1) := by decide +kernel
theorem dX4_in_10 : decode cX4_in 10 = .ok (.ifCond .gt 7, 3) := by decide +kernel
theorem dX4_in_13 : decode cX4_in 13 = .ok (.iconst 1, 1) := by decide +kernel
theorem dX4_in_14 : decode cX4_in 14 = .ok (.goto 4, 3) := by decide +kernel
theorem dX4_in_17 : decode cX4_in 17 = .ok (.iconst 0, 1) := by decide +kernel
theorem dX4_in_18 : decode cX4_in 18 = .ok (.ireturn, 1) := by decide +kernel
theorem dX4_isPath_0 : decode cX4_isPath 0 = .ok (.iload_n 0, 1) := by decide +kernel
theorem dX4_isPath_1 : decode cX4_isPath 1 = .ok (.i2l, 1) := by decide +kernel
theorem dX4_isPath_2 : decode cX4_isPath 2 = .ok (.lconst 0, 1) := by decide +kernel
theorem dX4_isPath_3 : decode cX4_isPath 3 = .ok (.ldc2_w 48, 3) := by decide +kernel
theorem dX4_isPath_6 : decode cX4_isPath 6 = .ok (.invokestatic 50, 3) := by decide +kernel
theorem dX4_isPath_9 : decode cX4_isPath 9 = .ok (.istore_n 1, 1) := by decide +kernel
theorem dX4_isPath_10 : decode cX4_isPath 10 = .ok (.iload_n 0, 1) := by decide +kernel
theorem dX4_isPath_11 : decode cX4_isPath 11 = .ok (.istore_n 2, 1) := by decide +kernel
theorem dX4_isPath_12 : decode cX4_isPath 12 = .ok (.iload_n 2, 1) := by decide +kernel
theorem dX4_isPath_13 : decode cX4_isPath 13 = .ok (.ifCond .le 36, 3) := by decide +kernel
theorem dX4_isPath_16 : decode cX4_isPath 16 = .ok (.iload_n 1, 1) := by decide +kernel
theorem dX4_isPath_17 : decode cX4_isPath 17 = .ok (.ifCond .eq 22, 3) := by decide +kernel
theorem dX4_isPath_20 : decode cX4_isPath 20 = .ok (.iload_n 2, 1) := by decide +kernel
theorem dX4_isPath_21 : decode cX4_isPath 21 = .ok (.bipush 10, 2) := by decide +kernel
theorem dX4_isPath_23 : decode cX4_isPath 23 = .ok (.irem, 1) := by decide +kernel
theorem dX4_isPath_24 : decode cX4_isPath 24 = .ok (.i2l, 1) := by decide +kernel
theorem dX4_isPath_25 : decode cX4_isPath 25 = .ok (.lconst 1, 1) := by decide +kernel
theorem dX4_isPath_26 : decode cX4_isPath 26 = .ok (.ldc2_w 54, 3) := by decide +kernel
theorem dX4_isPath_29 : decode cX4_isPath 29 = .ok (.invokestatic 50, 3) := by decide +kernel
theorem dX4_isPath_32 : decode cX4_isPath 32 = .ok (.ifCond .eq 7, 3) := by decide +kernel
theorem dX4_isPath_35 : decode cX4_isPath 35 = .ok (.iconst 1, 1) := by decide +kernel
theorem dX4_isPath_36 : decode cX4_isPath 36 = .ok (.goto 4, 3) := by decide +kernel
theorem dX4_isPath_39 : decode cX4_isPath 39 = .ok (.iconst 0, 1) := by decide +kernel
theorem dX4_isPath_40 : decode cX4_isPath 40 = .ok (.istore_n 1, 1) := by decide +kernel
theorem dX4_isPath_41 : decode cX4_isPath 41 = .ok (.iload_n 2, 1) := by decide +kernel
theorem dX4_isPath_42 : decode cX4_isPath 42 = .ok (.bipush 10, 2) := by decide +kernel
theorem dX4_isPath_44 : decode cX4_isPath 44 = .ok (.idiv, 1) := by decide +kernel
theorem dX4_isPath_45 : decode cX4_isPath 45 = .ok (.istore_n 2, 1) := by decide +kernel
theorem dX4_isPath_46 : decode cX4_isPath 46 = .ok (.goto (-34), 3) := by decide +kernel
theorem dX4_isPath_49 : decode cX4_isPath 49 = .ok (.iload_n 1, 1) := by decide +kernel
theorem dX4_isPath_50 : decode cX4_isPath 50 = .ok (.ireturn, 1) := by decide +kernel
theorem dX4_digits_0 : decode cX4_digits 0 = .ok (.iconst 0, 1) := by decide +kernel
theorem dX4_digits_1 : decode cX4_digits 1 = .ok (.istore_n 1, 1) := by decide +kernel
theorem dX4_digits_2 : decode cX4_digits 2 = .ok (.iload_n 0, 1) := by decide +kernel
theorem dX4_digits_3 : decode cX4_digits 3 = .ok (.istore_n 2, 1) := by decide +kernel
theorem dX4_digits_4 : decode cX4_digits 4 = .ok (.iload_n 2, 1) := by decide +kernel
theorem dX4_digits_5 : decode cX4_digits 5 = .ok (.ifCond .le 14, 3) := by decide +kernel
theorem dX4_digits_8 : decode cX4_digits 8 = .ok (.iinc 1 1, 3) := by decide +kernel
theorem dX4_digits_11 : decode cX4_digits 11 = .ok (.iload_n 2, 1) := by decide +kernel
theorem dX4_digits_12 : decode cX4_digits 12 = .ok (.bipush 10, 2) := by decide +kernel
theorem dX4_digits_14 : decode cX4_digits 14 = .ok (.idiv, 1) := by decide +kernel
theorem dX4_digits_15 : decode cX4_digits 15 = .ok (.istore_n 2, 1) := by decide +kernel
theorem dX4_digits_16 : decode cX4_digits 16 = .ok (.goto (-12), 3) := by decide +kernel
theorem dX4_digits_19 : decode cX4_digits 19 = .ok (.iload_n 1, 1) := by decide +kernel
theorem dX4_digits_20 : decode cX4_digits 20 = .ok (.ireturn, 1) := by decide +kernel
theorem dX4_power_0 : decode cX4_power 0 = .ok (.iconst 1, 1) := by decide +kernel
theorem dX4_power_1 : decode cX4_power 1 = .ok (.istore_n 2, 1) := by decide +kernel
theorem dX4_power_2 : decode cX4_power 2 = .ok (.iconst 0, 1) := by decide +kernel
theorem dX4_power_3 : decode cX4_power 3 = .ok (.istore_n 3, 1) := by decide +kernel
theorem dX4_power_4 : decode cX4_power 4 = .ok (.iload_n 3, 1) := by decide +kernel
theorem dX4_power_5 : decode cX4_power 5 = .ok (.iload_n 1, 1) := by decide +kernel
theorem dX4_power_6 : decode cX4_power 6 = .ok (.if_icmp .ge 13, 3) := by decide +kernel
theorem dX4_power_9 : decode cX4_power 9 = .ok (.iload_n 2, 1) := by decide +kernel
theorem dX4_power_10 : decode cX4_power 10 = .ok (.iload_n 0, 1) := by decide +kernel
theorem dX4_power_11 : decode cX4_power 11 = .ok (.imul, 1) := by decide +kernel
theorem dX4_power_12 : decode cX4_power 12 = .ok (.istore_n 2, 1) := by decide +kernel
theorem dX4_power_13 : decode cX4_power 13 = .ok (.iinc 3 1, 3) := by decide +kernel
theorem dX4_power_16 : decode cX4_power 16 = .ok (.goto (-12), 3) := by decide +kernel
theorem dX4_power_19 : decode cX4_power 19 = .ok (.iload_n 2, 1) := by decide +kernel
theorem dX4_power_20 : decode cX4_power 20 = .ok (.ireturn, 1) := by decide +kernel
theorem dX4_rank_0 : decode cX4_rank 0 = .ok (.iload_n 0, 1) := by decide +kernel
theorem dX4_rank_1 : decode cX4_rank 1 = .ok (.invokestatic 56, 3) := by decide +kernel
theorem dX4_rank_4 : decode cX4_rank 4 = .ok (.istore_n 1, 1) := by decide +kernel
theorem dX4_rank_5 : decode cX4_rank 5 = .ok (.iconst 0, 1) := by decide +kernel
theorem dX4_rank_6 : decode cX4_rank 6 = .ok (.istore_n 2, 1) := by decide +kernel
theorem dX4_rank_7 : decode cX4_rank 7 = .ok (.iload_n 1, 1) := by decide +kernel
theorem dX4_rank_8 : decode cX4_rank 8 = .ok (.iconst 1, 1) := by decide +kernel
theorem dX4_rank_9 : decode cX4_rank 9 = .ok (.isub, 1) := by decide +kernel
theorem dX4_rank_10 : decode cX4_rank 10 = .ok (.istore_n 3, 1) := by decide +kernel
theorem dX4_rank_11 : decode cX4_rank 11 = .ok (.iload_n 3, 1) := by decide +kernel
theorem dX4_rank_12 : decode cX4_rank 12 = .ok (.ifCond .lt 27, 3) := by decide +kernel
theorem dX4_rank_15 : decode cX4_rank 15 = .ok (.iconst 4, 1) := by decide +kernel
theorem dX4_rank_16 : decode cX4_rank 16 = .ok (.iload_n 2, 1) := by decide +kernel
theorem dX4_rank_17 : decode cX4_rank 17 = .ok (.imul, 1) := by decide +kernel
theorem dX4_rank_18 : decode cX4_rank 18 = .ok (.iload_n 0, 1) := by decide +kernel
theorem dX4_rank_19 : decode cX4_rank 19 = .ok (.bipush 10, 2) := by decide +kernel
theorem dX4_rank_21 : decode cX4_rank 21 = .ok (.iload_n 3, 1) := by decide +kernel
theorem dX4_rank_22 : decode cX4_rank 22 = .ok (.invokestatic 60, 3) := by decide +kernel
theorem dX4_rank_25 : decode cX4_rank 25 = .ok (.idiv, 1) := by decide +kernel
theorem dX4_rank_26 : decode cX4_rank 26 = .ok (.bipush 10, 2) := by decide +kernel
theorem dX4_rank_28 : decode cX4_rank 28 = .ok (.irem, 1) := by decide +kernel
theorem dX4_rank_29 : decode cX4_rank 29 = .ok (.iadd, 1) := by decide +kernel
theorem dX4_rank_30 : decode cX4_rank 30 = .ok (.iconst 1, 1) := by decide +kernel
theorem dX4_rank_31 : decode cX4_rank 31 = .ok (.isub, 1) := by decide +kernel
theorem dX4_rank_32 : decode cX4_rank 32 = .ok (.istore_n 2, 1) := by decide +kernel
theorem dX4_rank_33 : decode cX4_rank 33 = .ok (.iinc 3 (-1), 3) := by decide +kernel
theorem dX4_rank_36 : decode cX4_rank 36 = .ok (.goto (-25), 3) := by decide +kernel
theorem dX4_rank_39 : decode cX4_rank 39 = .ok (.iconst 4, 1) := by decide +kernel
theorem dX4_rank_40 : decode cX4_rank 40 = .ok (.iload_n 1, 1) := by decide +kernel
theorem dX4_rank_41 : decode cX4_rank 41 = .ok (.invokestatic 60, 3) := by decide +kernel
theorem dX4_rank_44 : decode cX4_rank 44 = .ok (.iconst 1, 1) := by decide +kernel
theorem dX4_rank_45 : decode cX4_rank 45 = .ok (.isub, 1) := by decide +kernel
theorem dX4_rank_46 : decode cX4_rank 46 = .ok (.iconst 3, 1) := by decide +kernel
theorem dX4_rank_47 : decode cX4_rank 47 = .ok (.idiv, 1) := by decide +kernel
theorem dX4_rank_48 : decode cX4_rank 48 = .ok (.iload_n 2, 1) := by decide +kernel
theorem dX4_rank_49 : decode cX4_rank 49 = .ok (.iadd, 1) := by decide +kernel
theorem dX4_rank_50 : decode cX4_rank 50 = .ok (.ireturn, 1) := by decide +kernel
theorem dX4_pathOf_0 : decode cX4_pathOf 0 = .ok (.iconst 0, 1) := by decide +kernel
theorem dX4_pathOf_1 : decode cX4_pathOf 1 = .ok (.istore_n 1, 1) := by decide +kernel
theorem dX4_pathOf_2 : decode cX4_pathOf 2 = .ok (.iload_n 0, 1) := by decide +kernel
theorem dX4_pathOf_3 : decode cX4_pathOf 3 = .ok (.istore_n 2, 1) := by decide +kernel
theorem dX4_pathOf_4 : decode cX4_pathOf 4 = .ok (.iload_n 2, 1) := by decide +kernel
theorem dX4_pathOf_5 : decode cX4_pathOf 5 = .ok (.iconst 4, 1) := by decide +kernel
theorem dX4_pathOf_6 : decode cX4_pathOf 6 = .ok (.iload_n 1, 1) := by decide +kernel
theorem dX4_pathOf_7 : decode cX4_pathOf 7 = .ok (.invokestatic 60, 3) := by decide +kernel
theorem dX4_pathOf_10 : decode cX4_pathOf 10 = .ok (.if_icmp .lt 17, 3) := by decide +kernel
theorem dX4_pathOf_13 : decode cX4_pathOf 13 = .ok (.iload_n 2, 1) := by decide +kernel
theorem dX4_pathOf_14 : decode cX4_pathOf 14 = .ok (.iconst 4, 1) := by decide +kernel
theorem dX4_pathOf_15 : decode cX4_pathOf 15 = .ok (.iload_n 1, 1) := by decide +kernel
theorem dX4_pathOf_16 : decode cX4_pathOf 16 = .ok (.invokestatic 60, 3) := by decide +kernel
theorem dX4_pathOf_19 : decode cX4_pathOf 19 = .ok (.isub, 1) := by decide +kernel
theorem dX4_pathOf_20 : decode cX4_pathOf 20 = .ok (.istore_n 2, 1) := by decide +kernel
theorem dX4_pathOf_21 : decode cX4_pathOf 21 = .ok (.iinc 1 1, 3) := by decide +kernel
theorem dX4_pathOf_24 : decode cX4_pathOf 24 = .ok (.goto (-20), 3) := by decide +kernel
theorem dX4_pathOf_27 : decode cX4_pathOf 27 = .ok (.iconst 0, 1) := by decide +kernel
theorem dX4_pathOf_28 : decode cX4_pathOf 28 = .ok (.istore_n 3, 1) := by decide +kernel
theorem dX4_pathOf_29 : decode cX4_pathOf 29 = .ok (.iload_n 1, 1) := by decide +kernel
theorem dX4_pathOf_30 : decode cX4_pathOf 30 = .ok (.iconst 1, 1) := by decide +kernel
theorem dX4_pathOf_31 : decode cX4_pathOf 31 = .ok (.isub, 1) := by decide +kernel
theorem dX4_pathOf_32 : decode cX4_pathOf 32 = .ok (.istore 4, 2) := by decide +kernel
theorem dX4_pathOf_34 : decode cX4_pathOf 34 = .ok (.iload 4, 2) := by decide +kernel
theorem dX4_pathOf_36 : decode cX4_pathOf 36 = .ok (.ifCond .lt 27, 3) := by decide +kernel
theorem dX4_pathOf_39 : decode cX4_pathOf 39 = .ok (.bipush 10, 2) := by decide +kernel
theorem dX4_pathOf_41 : decode cX4_pathOf 41 = .ok (.iload_n 3, 1) := by decide +kernel
theorem dX4_pathOf_42 : decode cX4_pathOf 42 = .ok (.imul, 1) := by decide +kernel
theorem dX4_pathOf_43 : decode cX4_pathOf 43 = .ok (.iload_n 2, 1) := by decide +kernel
theorem dX4_pathOf_44 : decode cX4_pathOf 44 = .ok (.iconst 4, 1) := by decide +kernel
theorem dX4_pathOf_45 : decode cX4_pathOf 45 = .ok (.iload 4, 2) := by decide +kernel
theorem dX4_pathOf_47 : decode cX4_pathOf 47 = .ok (.invokestatic 60, 3) := by decide +kernel
theorem dX4_pathOf_50 : decode cX4_pathOf 50 = .ok (.idiv, 1) := by decide +kernel
theorem dX4_pathOf_51 : decode cX4_pathOf 51 = .ok (.iconst 4, 1) := by decide +kernel
theorem dX4_pathOf_52 : decode cX4_pathOf 52 = .ok (.irem, 1) := by decide +kernel
theorem dX4_pathOf_53 : decode cX4_pathOf 53 = .ok (.iadd, 1) := by decide +kernel
theorem dX4_pathOf_54 : decode cX4_pathOf 54 = .ok (.iconst 1, 1) := by decide +kernel
theorem dX4_pathOf_55 : decode cX4_pathOf 55 = .ok (.iadd, 1) := by decide +kernel
theorem dX4_pathOf_56 : decode cX4_pathOf 56 = .ok (.istore_n 3, 1) := by decide +kernel
theorem dX4_pathOf_57 : decode cX4_pathOf 57 = .ok (.iinc 4 (-1), 3) := by decide +kernel
theorem dX4_pathOf_60 : decode cX4_pathOf 60 = .ok (.goto (-26), 3) := by decide +kernel
theorem dX4_pathOf_63 : decode cX4_pathOf 63 = .ok (.iload_n 3, 1) := by decide +kernel
theorem dX4_pathOf_64 : decode cX4_pathOf 64 = .ok (.ireturn, 1) := by decide +kernel
theorem dX4_begins_0 : decode cX4_begins 0 = .ok (.iload_n 0, 1) := by decide +kernel
theorem dX4_begins_1 : decode cX4_begins 1 = .ok (.invokestatic 56, 3) := by decide +kernel
theorem dX4_begins_4 : decode cX4_begins 4 = .ok (.iload_n 1, 1) := by decide +kernel
theorem dX4_begins_5 : decode cX4_begins 5 = .ok (.invokestatic 56, 3) := by decide +kernel
theorem dX4_begins_8 : decode cX4_begins 8 = .ok (.isub, 1) := by decide +kernel
theorem dX4_begins_9 : decode cX4_begins 9 = .ok (.istore_n 2, 1) := by decide +kernel
theorem dX4_begins_10 : decode cX4_begins 10 = .ok (.iload_n 2, 1) := by decide +kernel
theorem dX4_begins_11 : decode cX4_begins 11 = .ok (.ifCond .lt 19, 3) := by decide +kernel
theorem dX4_begins_14 : decode cX4_begins 14 = .ok (.iload_n 0, 1) := by decide +kernel
theorem dX4_begins_15 : decode cX4_begins 15 = .ok (.bipush 10, 2) := by decide +kernel
theorem dX4_begins_17 : decode cX4_begins 17 = .ok (.iload_n 2, 1) := by decide +kernel
theorem dX4_begins_18 : decode cX4_begins 18 = .ok (.invokestatic 60, 3) := by decide +kernel
theorem dX4_begins_21 : decode cX4_begins 21 = .ok (.idiv, 1) := by decide +kernel
theorem dX4_begins_22 : decode cX4_begins 22 = .ok (.iload_n 1, 1) := by decide +kernel
theorem dX4_begins_23 : decode cX4_begins 23 = .ok (.if_icmp .ne 7, 3) := by decide +kernel
theorem dX4_begins_26 : decode cX4_begins 26 = .ok (.iconst 1, 1) := by decide +kernel
theorem dX4_begins_27 : decode cX4_begins 27 = .ok (.goto 4, 3) := by decide +kernel
theorem dX4_begins_30 : decode cX4_begins 30 = .ok (.iconst 0, 1) := by decide +kernel
theorem dX4_begins_31 : decode cX4_begins 31 = .ok (.ireturn, 1) := by decide +kernel
theorem dX4_rest_0 : decode cX4_rest 0 = .ok (.iload_n 0, 1) := by decide +kernel
theorem dX4_rest_1 : decode cX4_rest 1 = .ok (.bipush 10, 2) := by decide +kernel
theorem dX4_rest_3 : decode cX4_rest 3 = .ok (.iload_n 0, 1) := by decide +kernel
theorem dX4_rest_4 : decode cX4_rest 4 = .ok (.invokestatic 56, 3) := by decide +kernel
theorem dX4_rest_7 : decode cX4_rest 7 = .ok (.iload_n 1, 1) := by decide +kernel
theorem dX4_rest_8 : decode cX4_rest 8 = .ok (.invokestatic 56, 3) := by decide +kernel
theorem dX4_rest_11 : decode cX4_rest 11 = .ok (.isub, 1) := by decide +kernel
theorem dX4_rest_12 : decode cX4_rest 12 = .ok (.invokestatic 60, 3) := by decide +kernel
theorem dX4_rest_15 : decode cX4_rest 15 = .ok (.irem, 1) := by decide +kernel
theorem dX4_rest_16 : decode cX4_rest 16 = .ok (.ireturn, 1) := by decide +kernel
theorem dX4_addLayer_0 : decode cX4_addLayer 0 = .ok (.aload_n 0, 1) := by decide +kernel
theorem dX4_addLayer_1 : decode cX4_addLayer 1 = .ok (.aload_n 0, 1) := by decide +kernel
theorem dX4_addLayer_2 : decode cX4_addLayer 2 = .ok (.getfield 64, 3) := by decide +kernel
theorem dX4_addLayer_5 : decode cX4_addLayer 5 = .ok (.bipush 6, 2) := by decide +kernel
theorem dX4_addLayer_7 : decode cX4_addLayer 7 = .ok (.if_icmp .ne 7, 3) := by decide +kernel
theorem dX4_addLayer_10 : decode cX4_addLayer 10 = .ok (.iconst 1, 1) := by decide +kernel
theorem dX4_addLayer_11 : decode cX4_addLayer 11 = .ok (.goto 4, 3) := by decide +kernel
theorem dX4_addLayer_14 : decode cX4_addLayer 14 = .ok (.iconst 0, 1) := by decide +kernel
theorem dX4_addLayer_15 : decode cX4_addLayer 15 = .ok (.putfield 44, 3) := by decide +kernel
theorem dX4_addLayer_18 : decode cX4_addLayer 18 = .ok (.aload_n 0, 1) := by decide +kernel
theorem dX4_addLayer_19 : decode cX4_addLayer 19 = .ok (.getfield 44, 3) := by decide +kernel
theorem dX4_addLayer_22 : decode cX4_addLayer 22 = .ok (.ifCond .le 5, 3) := by decide +kernel
theorem dX4_addLayer_25 : decode cX4_addLayer 25 = .ok (.iconst (-1), 1) := by decide +kernel
theorem dX4_addLayer_26 : decode cX4_addLayer 26 = .ok (.ireturn, 1) := by decide +kernel
theorem dX4_addLayer_27 : decode cX4_addLayer 27 = .ok (.aload_n 0, 1) := by decide +kernel
theorem dX4_addLayer_28 : decode cX4_addLayer 28 = .ok (.dup, 1) := by decide +kernel
theorem dX4_addLayer_29 : decode cX4_addLayer 29 = .ok (.getfield 64, 3) := by decide +kernel
theorem dX4_addLayer_32 : decode cX4_addLayer 32 = .ok (.iconst 1, 1) := by decide +kernel
theorem dX4_addLayer_33 : decode cX4_addLayer 33 = .ok (.iadd, 1) := by decide +kernel
theorem dX4_addLayer_34 : decode cX4_addLayer 34 = .ok (.putfield 64, 3) := by decide +kernel
theorem dX4_addLayer_37 : decode cX4_addLayer 37 = .ok (.aload_n 0, 1) := by decide +kernel
theorem dX4_addLayer_38 : decode cX4_addLayer 38 = .ok (.getfield 64, 3) := by decide +kernel
theorem dX4_addLayer_41 : decode cX4_addLayer 41 = .ok (.iconst 1, 1) := by decide +kernel
theorem dX4_addLayer_42 : decode cX4_addLayer 42 = .ok (.isub, 1) := by decide +kernel
theorem dX4_addLayer_43 : decode cX4_addLayer 43 = .ok (.ireturn, 1) := by decide +kernel
theorem dX4_isLayer_0 : decode cX4_isLayer 0 = .ok (.iload_n 1, 1) := by decide +kernel
theorem dX4_isLayer_1 : decode cX4_isLayer 1 = .ok (.i2l, 1) := by decide +kernel
theorem dX4_isLayer_2 : decode cX4_isLayer 2 = .ok (.lconst 0, 1) := by decide +kernel
theorem dX4_isLayer_3 : decode cX4_isLayer 3 = .ok (.aload_n 0, 1) := by decide +kernel
theorem dX4_isLayer_4 : decode cX4_isLayer 4 = .ok (.getfield 64, 3) := by decide +kernel
theorem dX4_isLayer_7 : decode cX4_isLayer 7 = .ok (.iconst 1, 1) := by decide +kernel
theorem dX4_isLayer_8 : decode cX4_isLayer 8 = .ok (.isub, 1) := by decide +kernel
theorem dX4_isLayer_9 : decode cX4_isLayer 9 = .ok (.i2l, 1) := by decide +kernel
theorem dX4_isLayer_10 : decode cX4_isLayer 10 = .ok (.invokestatic 50, 3) := by decide +kernel
theorem dX4_isLayer_13 : decode cX4_isLayer 13 = .ok (.ireturn, 1) := by decide +kernel
theorem dX4_isUpper_0 : decode cX4_isUpper 0 = .ok (.iconst 0, 1) := by decide +kernel
theorem dX4_isUpper_1 : decode cX4_isUpper 1 = .ok (.istore_n 2, 1) := by decide +kernel
theorem dX4_isUpper_2 : decode cX4_isUpper 2 = .ok (.iconst 0, 1) := by decide +kernel
theorem dX4_isUpper_3 : decode cX4_isUpper 3 = .ok (.istore_n 3, 1) := by decide +kernel
theorem dX4_isUpper_4 : decode cX4_isUpper 4 = .ok (.iload_n 3, 1) := by decide +kernel
theorem dX4_isUpper_5 : decode cX4_isUpper 5 = .ok (.aload_n 0, 1) := by decide +kernel
theorem dX4_isUpper_6 : decode cX4_isUpper 6 = .ok (.getfield 67, 3) := by decide +kernel
theorem dX4_isUpper_9 : decode cX4_isUpper 9 = .ok (.if_icmp .ge 38, 3) := by decide +kernel
theorem dX4_isUpper_12 : decode cX4_isUpper 12 = .ok (.iload_n 2, 1) := by decide +kernel
theorem dX4_isUpper_13 : decode cX4_isUpper 13 = .ok (.ifCond .ne 22, 3) := by decide +kernel
theorem dX4_isUpper_16 : decode cX4_isUpper 16 = .ok (.aload_n 0, 1) := by decide +kernel
theorem dX4_isUpper_17 : decode cX4_isUpper 17 = .ok (.getfield 28, 3) := by decide +kernel
theorem dX4_isUpper_20 : decode cX4_isUpper 20 = .ok (.iload_n 3, 1) := by decide +kernel
theorem dX4_isUpper_21 : decode cX4_isUpper 21 = .ok (.baload, 1) := by decide +kernel
theorem dX4_isUpper_22 : decode cX4_isUpper 22 = .ok (.ifCond .eq 17, 3) := by decide +kernel
theorem dX4_isUpper_25 : decode cX4_isUpper 25 = .ok (.aload_n 0, 1) := by decide +kernel
theorem dX4_isUpper_26 : decode cX4_isUpper 26 = .ok (.getfield 25, 3) := by decide +kernel
theorem dX4_isUpper_29 : decode cX4_isUpper 29 = .ok (.iload_n 3, 1) := by decide +kernel
theorem dX4_isUpper_30 : decode cX4_isUpper 30 = .ok (.iaload, 1) := by decide +kernel
theorem dX4_isUpper_31 : decode cX4_isUpper 31 = .ok (.iload_n 1, 1) := by decide +kernel
theorem dX4_isUpper_32 : decode cX4_isUpper 32 = .ok (.if_icmp .ne 7, 3) := by decide +kernel
theorem dX4_isUpper_35 : decode cX4_isUpper 35 = .ok (.iconst 1, 1) := by decide +kernel
theorem dX4_isUpper_36 : decode cX4_isUpper 36 = .ok (.goto 4, 3) := by decide +kernel
theorem dX4_isUpper_39 : decode cX4_isUpper 39 = .ok (.iconst 0, 1) := by decide +kernel
theorem dX4_isUpper_40 : decode cX4_isUpper 40 = .ok (.istore_n 2, 1) := by decide +kernel
theorem dX4_isUpper_41 : decode cX4_isUpper 41 = .ok (.iinc 3 1, 3) := by decide +kernel
theorem dX4_isUpper_44 : decode cX4_isUpper 44 = .ok (.goto (-40), 3) := by decide +kernel
theorem dX4_isUpper_47 : decode cX4_isUpper 47 = .ok (.iload_n 2, 1) := by decide +kernel
theorem dX4_isUpper_48 : decode cX4_isUpper 48 = .ok (.ireturn, 1) := by decide +kernel
theorem dX4_isUsed_0 : decode cX4_isUsed 0 = .ok (.iconst 0, 1) := by decide +kernel
theorem dX4_isUsed_1 : decode cX4_isUsed 1 = .ok (.istore_n 2, 1) := by decide +kernel
theorem dX4_isUsed_2 : decode cX4_isUsed 2 = .ok (.iconst 0, 1) := by decide +kernel
theorem dX4_isUsed_3 : decode cX4_isUsed 3 = .ok (.istore_n 3, 1) := by decide +kernel
theorem dX4_isUsed_4 : decode cX4_isUsed 4 = .ok (.iload_n 3, 1) := by decide +kernel
theorem dX4_isUsed_5 : decode cX4_isUsed 5 = .ok (.aload_n 0, 1) := by decide +kernel
theorem dX4_isUsed_6 : decode cX4_isUsed 6 = .ok (.getfield 67, 3) := by decide +kernel
theorem dX4_isUsed_9 : decode cX4_isUsed 9 = .ok (.if_icmp .ge 48, 3) := by decide +kernel
theorem dX4_isUsed_12 : decode cX4_isUsed 12 = .ok (.iload_n 2, 1) := by decide +kernel
theorem dX4_isUsed_13 : decode cX4_isUsed 13 = .ok (.ifCond .ne 32, 3) := by decide +kernel
theorem dX4_isUsed_16 : decode cX4_isUsed 16 = .ok (.aload_n 0, 1) := by decide +kernel
theorem dX4_isUsed_17 : decode cX4_isUsed 17 = .ok (.getfield 28, 3) := by decide +kernel
theorem dX4_isUsed_20 : decode cX4_isUsed 20 = .ok (.iload_n 3, 1) := by decide +kernel
theorem dX4_isUsed_21 : decode cX4_isUsed 21 = .ok (.baload, 1) := by decide +kernel
theorem dX4_isUsed_22 : decode cX4_isUsed 22 = .ok (.ifCond .eq 27, 3) := by decide +kernel
theorem dX4_isUsed_25 : decode cX4_isUsed 25 = .ok (.aload_n 0, 1) := by decide +kernel
theorem dX4_isUsed_26 : decode cX4_isUsed 26 = .ok (.getfield 25, 3) := by decide +kernel
theorem dX4_isUsed_29 : decode cX4_isUsed 29 = .ok (.iload_n 3, 1) := by decide +kernel
theorem dX4_isUsed_30 : decode cX4_isUsed 30 = .ok (.iaload, 1) := by decide +kernel
theorem dX4_isUsed_31 : decode cX4_isUsed 31 = .ok (.iload_n 1, 1) := by decide +kernel
theorem dX4_isUsed_32 : decode cX4_isUsed 32 = .ok (.if_icmp .eq 13, 3) := by decide +kernel
theorem dX4_isUsed_35 : decode cX4_isUsed 35 = .ok (.aload_n 0, 1) := by decide +kernel
theorem dX4_isUsed_36 : decode cX4_isUsed 36 = .ok (.getfield 22, 3) := by decide +kernel
theorem dX4_isUsed_39 : decode cX4_isUsed 39 = .ok (.iload_n 3, 1) := by decide +kernel
theorem dX4_isUsed_40 : decode cX4_isUsed 40 = .ok (.iaload, 1) := by decide +kernel
theorem dX4_isUsed_41 : decode cX4_isUsed 41 = .ok (.iload_n 1, 1) := by decide +kernel
theorem dX4_isUsed_42 : decode cX4_isUsed 42 = .ok (.if_icmp .ne 7, 3) := by decide +kernel
theorem dX4_isUsed_45 : decode cX4_isUsed 45 = .ok (.iconst 1, 1) := by decide +kernel
theorem dX4_isUsed_46 : decode cX4_isUsed 46 = .ok (.goto 4, 3) := by decide +kernel
theorem dX4_isUsed_49 : decode cX4_isUsed 49 = .ok (.iconst 0, 1) := by decide +kernel
theorem dX4_isUsed_50 : decode cX4_isUsed 50 = .ok (.istore_n 2, 1) := by decide +kernel
theorem dX4_isUsed_51 : decode cX4_isUsed 51 = .ok (.iinc 3 1, 3) := by decide +kernel
theorem dX4_isUsed_54 : decode cX4_isUsed 54 = .ok (.goto (-50), 3) := by decide +kernel
theorem dX4_isUsed_57 : decode cX4_isUsed 57 = .ok (.iload_n 2, 1) := by decide +kernel
theorem dX4_isUsed_58 : decode cX4_isUsed 58 = .ok (.ireturn, 1) := by decide +kernel
theorem dX4_mount_0 : decode cX4_mount 0 = .ok (.iload_n 1, 1) := by decide +kernel
theorem dX4_mount_1 : decode cX4_mount 1 = .ok (.invokestatic 70, 3) := by decide +kernel
theorem dX4_mount_4 : decode cX4_mount 4 = .ok (.ifCond .eq 8, 3) := by decide +kernel
theorem dX4_mount_7 : decode cX4_mount 7 = .ok (.iload_n 2, 1) := by decide +kernel
theorem dX4_mount_8 : decode cX4_mount 8 = .ok (.iload_n 3, 1) := by decide +kernel
theorem dX4_mount_9 : decode cX4_mount 9 = .ok (.if_icmp .ne 10, 3) := by decide +kernel
theorem dX4_mount_12 : decode cX4_mount 12 = .ok (.aload_n 0, 1) := by decide +kernel
theorem dX4_mount_13 : decode cX4_mount 13 = .ok (.iconst 1, 1) := by decide +kernel
theorem dX4_mount_14 : decode cX4_mount 14 = .ok (.putfield 44, 3) := by decide +kernel
theorem dX4_mount_17 : decode cX4_mount 17 = .ok (.iconst (-1), 1) := by decide +kernel
theorem dX4_mount_18 : decode cX4_mount 18 = .ok (.ireturn, 1) := by decide +kernel
theorem dX4_mount_19 : decode cX4_mount 19 = .ok (.aload_n 0, 1) := by decide +kernel
theorem dX4_mount_20 : decode cX4_mount 20 = .ok (.iload_n 2, 1) := by decide +kernel
theorem dX4_mount_21 : decode cX4_mount 21 = .ok (.invokevirtual 74, 3) := by decide +kernel
theorem dX4_mount_24 : decode cX4_mount 24 = .ok (.ifCond .eq 16, 3) := by decide +kernel
theorem dX4_mount_27 : decode cX4_mount 27 = .ok (.iload_n 3, 1) := by decide +kernel
theorem dX4_mount_28 : decode cX4_mount 28 = .ok (.iconst (-1), 1) := by decide +kernel
theorem dX4_mount_29 : decode cX4_mount 29 = .ok (.if_icmp .eq 18, 3) := by decide +kernel
theorem dX4_mount_32 : decode cX4_mount 32 = .ok (.aload_n 0, 1) := by decide +kernel
theorem dX4_mount_33 : decode cX4_mount 33 = .ok (.iload_n 3, 1) := by decide +kernel
theorem dX4_mount_34 : decode cX4_mount 34 = .ok (.invokevirtual 74, 3) := by decide +kernel
theorem dX4_mount_37 : decode cX4_mount 37 = .ok (.ifCond .ne 10, 3) := by decide +kernel
theorem dX4_mount_40 : decode cX4_mount 40 = .ok (.aload_n 0, 1) := by decide +kernel
theorem dX4_mount_41 : decode cX4_mount 41 = .ok (.iconst 2, 1) := by decide +kernel
theorem dX4_mount_42 : decode cX4_mount 42 = .ok (.putfield 44, 3) := by decide +kernel
theorem dX4_mount_45 : decode cX4_mount 45 = .ok (.iconst (-1), 1) := by decide +kernel
theorem dX4_mount_46 : decode cX4_mount 46 = .ok (.ireturn, 1) := by decide +kernel
theorem dX4_mount_47 : decode cX4_mount 47 = .ok (.aload_n 0, 1) := by decide +kernel
theorem dX4_mount_48 : decode cX4_mount 48 = .ok (.iload_n 2, 1) := by decide +kernel
theorem dX4_mount_49 : decode cX4_mount 49 = .ok (.invokevirtual 77, 3) := by decide +kernel
theorem dX4_mount_52 : decode cX4_mount 52 = .ok (.ifCond .ne 16, 3) := by decide +kernel
theorem dX4_mount_55 : decode cX4_mount 55 = .ok (.iload_n 3, 1) := by decide +kernel
theorem dX4_mount_56 : decode cX4_mount 56 = .ok (.iconst (-1), 1) := by decide +kernel
theorem dX4_mount_57 : decode cX4_mount 57 = .ok (.if_icmp .eq 15, 3) := by decide +kernel
theorem dX4_mount_60 : decode cX4_mount 60 = .ok (.aload_n 0, 1) := by decide +kernel
theorem dX4_mount_61 : decode cX4_mount 61 = .ok (.iload_n 3, 1) := by decide +kernel
theorem dX4_mount_62 : decode cX4_mount 62 = .ok (.invokevirtual 80, 3) := by decide +kernel
theorem dX4_mount_65 : decode cX4_mount 65 = .ok (.ifCond .eq 7, 3) := by decide +kernel
theorem dX4_mount_68 : decode cX4_mount 68 = .ok (.iconst 1, 1) := by decide +kernel
theorem dX4_mount_69 : decode cX4_mount 69 = .ok (.goto 4, 3) := by decide +kernel
theorem dX4_mount_72 : decode cX4_mount 72 = .ok (.iconst 0, 1) := by decide +kernel
theorem dX4_mount_73 : decode cX4_mount 73 = .ok (.istore 4, 2) := by decide +kernel
theorem dX4_mount_75 : decode cX4_mount 75 = .ok (.aload_n 0, 1) := by decide +kernel
theorem dX4_mount_76 : decode cX4_mount 76 = .ok (.iload 4, 2) := by decide +kernel
theorem dX4_mount_78 : decode cX4_mount 78 = .ok (.ifCond .eq 7, 3) := by decide +kernel
theorem dX4_mount_81 : decode cX4_mount 81 = .ok (.iconst 3, 1) := by decide +kernel
theorem dX4_mount_82 : decode cX4_mount 82 = .ok (.goto 17, 3) := by decide +kernel
theorem dX4_mount_85 : decode cX4_mount 85 = .ok (.aload_n 0, 1) := by decide +kernel
theorem dX4_mount_86 : decode cX4_mount 86 = .ok (.getfield 67, 3) := by decide +kernel
theorem dX4_mount_89 : decode cX4_mount 89 = .ok (.bipush 8, 2) := by decide +kernel
theorem dX4_mount_91 : decode cX4_mount 91 = .ok (.if_icmp .ne 7, 3) := by decide +kernel
theorem dX4_mount_94 : decode cX4_mount 94 = .ok (.iconst 4, 1) := by decide +kernel
theorem dX4_mount_95 : decode cX4_mount 95 = .ok (.goto 4, 3) := by decide +kernel
theorem dX4_mount_98 : decode cX4_mount 98 = .ok (.iconst 0, 1) := by decide +kernel
theorem dX4_mount_99 : decode cX4_mount 99 = .ok (.putfield 44, 3) := by decide +kernel
theorem dX4_mount_102 : decode cX4_mount 102 = .ok (.aload_n 0, 1) := by decide +kernel
theorem dX4_mount_103 : decode cX4_mount 103 = .ok (.getfield 44, 3) := by decide +kernel
theorem dX4_mount_106 : decode cX4_mount 106 = .ok (.ifCond .le 5, 3) := by decide +kernel
theorem dX4_mount_109 : decode cX4_mount 109 = .ok (.iconst (-1), 1) := by decide +kernel
theorem dX4_mount_110 : decode cX4_mount 110 = .ok (.ireturn, 1) := by decide +kernel
theorem dX4_mount_111 : decode cX4_mount 111 = .ok (.aload_n 0, 1) := by decide +kernel
theorem dX4_mount_112 : decode cX4_mount 112 = .ok (.getfield 19, 3) := by decide +kernel
theorem dX4_mount_115 : decode cX4_mount 115 = .ok (.aload_n 0, 1) := by decide +kernel
theorem dX4_mount_116 : decode cX4_mount 116 = .ok (.getfield 67, 3) := by decide +kernel
theorem dX4_mount_119 : decode cX4_mount 119 = .ok (.iload_n 1, 1) := by decide +kernel
theorem dX4_mount_120 : decode cX4_mount 120 = .ok (.iastore, 1) := by decide +kernel
theorem dX4_mount_121 : decode cX4_mount 121 = .ok (.aload_n 0, 1) := by decide +kernel
theorem dX4_mount_122 : decode cX4_mount 122 = .ok (.getfield 22, 3) := by decide +kernel
theorem dX4_mount_125 : decode cX4_mount 125 = .ok (.aload_n 0, 1) := by decide +kernel
theorem dX4_mount_126 : decode cX4_mount 126 = .ok (.getfield 67, 3) := by decide +kernel
theorem dX4_mount_129 : decode cX4_mount 129 = .ok (.iload_n 2, 1) := by decide +kernel
theorem dX4_mount_130 : decode cX4_mount 130 = .ok (.iastore, 1) := by decide +kernel
theorem dX4_mount_131 : decode cX4_mount 131 = .ok (.aload_n 0, 1) := by decide +kernel
theorem dX4_mount_132 : decode cX4_mount 132 = .ok (.getfield 25, 3) := by decide +kernel
theorem dX4_mount_135 : decode cX4_mount 135 = .ok (.aload_n 0, 1) := by decide +kernel
theorem dX4_mount_136 : decode cX4_mount 136 = .ok (.getfield 67, 3) := by decide +kernel
theorem dX4_mount_139 : decode cX4_mount 139 = .ok (.iload_n 3, 1) := by decide +kernel
theorem dX4_mount_140 : decode cX4_mount 140 = .ok (.iastore, 1) := by decide +kernel
theorem dX4_mount_141 : decode cX4_mount 141 = .ok (.aload_n 0, 1) := by decide +kernel
theorem dX4_mount_142 : decode cX4_mount 142 = .ok (.getfield 28, 3) := by decide +kernel
theorem dX4_mount_145 : decode cX4_mount 145 = .ok (.aload_n 0, 1) := by decide +kernel
theorem dX4_mount_146 : decode cX4_mount 146 = .ok (.getfield 67, 3) := by decide +kernel
theorem dX4_mount_149 : decode cX4_mount 149 = .ok (.iconst 1, 1) := by decide +kernel
theorem dX4_mount_150 : decode cX4_mount 150 = .ok (.bastore, 1) := by decide +kernel
theorem dX4_mount_151 : decode cX4_mount 151 = .ok (.aload_n 0, 1) := by decide +kernel
theorem dX4_mount_152 : decode cX4_mount 152 = .ok (.getfield 32, 3) := by decide +kernel
theorem dX4_mount_155 : decode cX4_mount 155 = .ok (.aload_n 0, 1) := by decide +kernel
theorem dX4_mount_156 : decode cX4_mount 156 = .ok (.getfield 67, 3) := by decide +kernel
theorem dX4_mount_159 : decode cX4_mount 159 = .ok (.iconst 0, 1) := by decide +kernel
theorem dX4_mount_160 : decode cX4_mount 160 = .ok (.bastore, 1) := by decide +kernel
theorem dX4_mount_161 : decode cX4_mount 161 = .ok (.aload_n 0, 1) := by decide +kernel
theorem dX4_mount_162 : decode cX4_mount 162 = .ok (.dup, 1) := by decide +kernel
theorem dX4_mount_163 : decode cX4_mount 163 = .ok (.getfield 67, 3) := by decide +kernel
theorem dX4_mount_166 : decode cX4_mount 166 = .ok (.iconst 1, 1) := by decide +kernel
theorem dX4_mount_167 : decode cX4_mount 167 = .ok (.iadd, 1) := by decide +kernel
theorem dX4_mount_168 : decode cX4_mount 168 = .ok (.putfield 67, 3) := by decide +kernel
theorem dX4_mount_171 : decode cX4_mount 171 = .ok (.aload_n 0, 1) := by decide +kernel
theorem dX4_mount_172 : decode cX4_mount 172 = .ok (.getfield 67, 3) := by decide +kernel
theorem dX4_mount_175 : decode cX4_mount 175 = .ok (.iconst 1, 1) := by decide +kernel
theorem dX4_mount_176 : decode cX4_mount 176 = .ok (.isub, 1) := by decide +kernel
theorem dX4_mount_177 : decode cX4_mount 177 = .ok (.ireturn, 1) := by decide +kernel
theorem dX4_isMount_0 : decode cX4_isMount 0 = .ok (.iload_n 1, 1) := by decide +kernel
theorem dX4_isMount_1 : decode cX4_isMount 1 = .ok (.i2l, 1) := by decide +kernel
theorem dX4_isMount_2 : decode cX4_isMount 2 = .ok (.lconst 0, 1) := by decide +kernel
theorem dX4_isMount_3 : decode cX4_isMount 3 = .ok (.aload_n 0, 1) := by decide +kernel
theorem dX4_isMount_4 : decode cX4_isMount 4 = .ok (.getfield 67, 3) := by decide +kernel
theorem dX4_isMount_7 : decode cX4_isMount 7 = .ok (.iconst 1, 1) := by decide +kernel
theorem dX4_isMount_8 : decode cX4_isMount 8 = .ok (.isub, 1) := by decide +kernel
theorem dX4_isMount_9 : decode cX4_isMount 9 = .ok (.i2l, 1) := by decide +kernel
theorem dX4_isMount_10 : decode cX4_isMount 10 = .ok (.invokestatic 50, 3) := by decide +kernel
theorem dX4_isMount_13 : decode cX4_isMount 13 = .ok (.ifCond .eq 16, 3) := by decide +kernel
theorem dX4_isMount_16 : decode cX4_isMount 16 = .ok (.aload_n 0, 1) := by decide +kernel
theorem dX4_isMount_17 : decode cX4_isMount 17 = .ok (.getfield 28, 3) := by decide +kernel
theorem dX4_isMount_20 : decode cX4_isMount 20 = .ok (.iload_n 1, 1) := by decide +kernel
theorem dX4_isMount_21 : decode cX4_isMount 21 = .ok (.baload, 1) := by decide +kernel
theorem dX4_isMount_22 : decode cX4_isMount 22 = .ok (.ifCond .eq 7, 3) := by decide +kernel
theorem dX4_isMount_25 : decode cX4_isMount 25 = .ok (.iconst 1, 1) := by decide +kernel
theorem dX4_isMount_26 : decode cX4_isMount 26 = .ok (.goto 4, 3) := by decide +kernel
theorem dX4_isMount_29 : decode cX4_isMount 29 = .ok (.iconst 0, 1) := by decide +kernel
theorem dX4_isMount_30 : decode cX4_isMount 30 = .ok (.ireturn, 1) := by decide +kernel
theorem dX4_unmount_0 : decode cX4_unmount 0 = .ok (.aload_n 0, 1) := by decide +kernel
theorem dX4_unmount_1 : decode cX4_unmount 1 = .ok (.aload_n 0, 1) := by decide +kernel
theorem dX4_unmount_2 : decode cX4_unmount 2 = .ok (.iload_n 1, 1) := by decide +kernel
theorem dX4_unmount_3 : decode cX4_unmount 3 = .ok (.invokevirtual 83, 3) := by decide +kernel
theorem dX4_unmount_6 : decode cX4_unmount 6 = .ok (.ifCond .eq 7, 3) := by decide +kernel
theorem dX4_unmount_9 : decode cX4_unmount 9 = .ok (.iconst 0, 1) := by decide +kernel
theorem dX4_unmount_10 : decode cX4_unmount 10 = .ok (.goto 4, 3) := by decide +kernel
theorem dX4_unmount_13 : decode cX4_unmount 13 = .ok (.iconst 1, 1) := by decide +kernel
theorem dX4_unmount_14 : decode cX4_unmount 14 = .ok (.putfield 44, 3) := by decide +kernel
theorem dX4_unmount_17 : decode cX4_unmount 17 = .ok (.aload_n 0, 1) := by decide +kernel
theorem dX4_unmount_18 : decode cX4_unmount 18 = .ok (.getfield 44, 3) := by decide +kernel
theorem dX4_unmount_21 : decode cX4_unmount 21 = .ok (.ifCond .le 5, 3) := by decide +kernel
theorem dX4_unmount_24 : decode cX4_unmount 24 = .ok (.iconst (-1), 1) := by decide +kernel
theorem dX4_unmount_25 : decode cX4_unmount 25 = .ok (.ireturn, 1) := by decide +kernel
theorem dX4_unmount_26 : decode cX4_unmount 26 = .ok (.aload_n 0, 1) := by decide +kernel
theorem dX4_unmount_27 : decode cX4_unmount 27 = .ok (.getfield 28, 3) := by decide +kernel
theorem dX4_unmount_30 : decode cX4_unmount 30 = .ok (.iload_n 1, 1) := by decide +kernel
theorem dX4_unmount_31 : decode cX4_unmount 31 = .ok (.iconst 0, 1) := by decide +kernel
theorem dX4_unmount_32 : decode cX4_unmount 32 = .ok (.bastore, 1) := by decide +kernel
theorem dX4_unmount_33 : decode cX4_unmount 33 = .ok (.iconst 0, 1) := by decide +kernel
theorem dX4_unmount_34 : decode cX4_unmount 34 = .ok (.istore_n 2, 1) := by decide +kernel
theorem dX4_unmount_35 : decode cX4_unmount 35 = .ok (.iconst 0, 1) := by decide +kernel
theorem dX4_unmount_36 : decode cX4_unmount 36 = .ok (.istore_n 3, 1) := by decide +kernel
theorem dX4_unmount_37 : decode cX4_unmount 37 = .ok (.iload_n 3, 1) := by decide +kernel
theorem dX4_unmount_38 : decode cX4_unmount 38 = .ok (.aload_n 0, 1) := by decide +kernel
theorem dX4_unmount_39 : decode cX4_unmount 39 = .ok (.getfield 67, 3) := by decide +kernel
theorem dX4_unmount_42 : decode cX4_unmount 42 = .ok (.if_icmp .ge 26, 3) := by decide +kernel
theorem dX4_unmount_45 : decode cX4_unmount 45 = .ok (.iload_n 2, 1) := by decide +kernel
theorem dX4_unmount_46 : decode cX4_unmount 46 = .ok (.aload_n 0, 1) := by decide +kernel
theorem dX4_unmount_47 : decode cX4_unmount 47 = .ok (.getfield 28, 3) := by decide +kernel
theorem dX4_unmount_50 : decode cX4_unmount 50 = .ok (.iload_n 3, 1) := by decide +kernel
theorem dX4_unmount_51 : decode cX4_unmount 51 = .ok (.baload, 1) := by decide +kernel
theorem dX4_unmount_52 : decode cX4_unmount 52 = .ok (.ifCond .eq 7, 3) := by decide +kernel
theorem dX4_unmount_55 : decode cX4_unmount 55 = .ok (.iconst 1, 1) := by decide +kernel
theorem dX4_unmount_56 : decode cX4_unmount 56 = .ok (.goto 4, 3) := by decide +kernel
theorem dX4_unmount_59 : decode cX4_unmount 59 = .ok (.iconst 0, 1) := by decide +kernel
theorem dX4_unmount_60 : decode cX4_unmount 60 = .ok (.iadd, 1) := by decide +kernel
theorem dX4_unmount_61 : decode cX4_unmount 61 = .ok (.istore_n 2, 1) := by decide +kernel
theorem dX4_unmount_62 : decode cX4_unmount 62 = .ok (.iinc 3 1, 3) := by decide +kernel
theorem dX4_unmount_65 : decode cX4_unmount 65 = .ok (.goto (-28), 3) := by decide +kernel
theorem dX4_unmount_68 : decode cX4_unmount 68 = .ok (.iload_n 2, 1) := by decide +kernel
theorem dX4_unmount_69 : decode cX4_unmount 69 = .ok (.ireturn, 1) := by decide +kernel
theorem dX4_move_0 : decode cX4_move 0 = .ok (.aload_n 0, 1) := by decide +kernel
theorem dX4_move_1 : decode cX4_move 1 = .ok (.aload_n 0, 1) := by decide +kernel
theorem dX4_move_2 : decode cX4_move 2 = .ok (.iload_n 1, 1) := by decide +kernel
theorem dX4_move_3 : decode cX4_move 3 = .ok (.invokevirtual 83, 3) := by decide +kernel
theorem dX4_move_6 : decode cX4_move 6 = .ok (.ifCond .ne 7, 3) := by decide +kernel
theorem dX4_move_9 : decode cX4_move 9 = .ok (.iconst 1, 1) := by decide +kernel
theorem dX4_move_10 : decode cX4_move 10 = .ok (.goto 15, 3) := by decide +kernel
theorem dX4_move_13 : decode cX4_move 13 = .ok (.iload_n 2, 1) := by decide +kernel
theorem dX4_move_14 : decode cX4_move 14 = .ok (.invokestatic 70, 3) := by decide +kernel
theorem dX4_move_17 : decode cX4_move 17 = .ok (.ifCond .ne 7, 3) := by decide +kernel
theorem dX4_move_20 : decode cX4_move 20 = .ok (.iconst 2, 1) := by decide +kernel
theorem dX4_move_21 : decode cX4_move 21 = .ok (.goto 4, 3) := by decide +kernel
theorem dX4_move_24 : decode cX4_move 24 = .ok (.iconst 0, 1) := by decide +kernel
theorem dX4_move_25 : decode cX4_move 25 = .ok (.putfield 44, 3) := by decide +kernel
theorem dX4_move_28 : decode cX4_move 28 = .ok (.aload_n 0, 1) := by decide +kernel
theorem dX4_move_29 : decode cX4_move 29 = .ok (.getfield 44, 3) := by decide +kernel
theorem dX4_move_32 : decode cX4_move 32 = .ok (.ifCond .le 5, 3) := by decide +kernel
theorem dX4_move_35 : decode cX4_move 35 = .ok (.iconst (-1), 1) := by decide +kernel
theorem dX4_move_36 : decode cX4_move 36 = .ok (.ireturn, 1) := by decide +kernel
theorem dX4_move_37 : decode cX4_move 37 = .ok (.aload_n 0, 1) := by decide +kernel
theorem dX4_move_38 : decode cX4_move 38 = .ok (.getfield 19, 3) := by decide +kernel
theorem dX4_move_41 : decode cX4_move 41 = .ok (.iload_n 1, 1) := by decide +kernel
theorem dX4_move_42 : decode cX4_move 42 = .ok (.iaload, 1) := by decide +kernel
theorem dX4_move_43 : decode cX4_move 43 = .ok (.istore_n 3, 1) := by decide +kernel
theorem dX4_move_44 : decode cX4_move 44 = .ok (.aload_n 0, 1) := by decide +kernel
theorem dX4_move_45 : decode cX4_move 45 = .ok (.getfield 19, 3) := by decide +kernel
theorem dX4_move_48 : decode cX4_move 48 = .ok (.iload_n 1, 1) := by decide +kernel
theorem dX4_move_49 : decode cX4_move 49 = .ok (.iload_n 2, 1) := by decide +kernel
theorem dX4_move_50 : decode cX4_move 50 = .ok (.iastore, 1) := by decide +kernel
theorem dX4_move_51 : decode cX4_move 51 = .ok (.iload_n 3, 1) := by decide +kernel
theorem dX4_move_52 : decode cX4_move 52 = .ok (.ireturn, 1) := by decide +kernel
theorem dX4_setCrossing_0 : decode cX4_setCrossing 0 = .ok (.aload_n 0, 1) := by decide +kernel
theorem dX4_setCrossing_1 : decode cX4_setCrossing 1 = .ok (.aload_n 0, 1) := by decide +kernel
theorem dX4_setCrossing_2 : decode cX4_setCrossing 2 = .ok (.iload_n 1, 1) := by decide +kernel
theorem dX4_setCrossing_3 : decode cX4_setCrossing 3 = .ok (.invokevirtual 83, 3) := by decide +kernel
theorem dX4_setCrossing_6 : decode cX4_setCrossing 6 = .ok (.ifCond .eq 7, 3) := by decide +kernel
theorem dX4_setCrossing_9 : decode cX4_setCrossing 9 = .ok (.iconst 0, 1) := by decide +kernel
theorem dX4_setCrossing_10 : decode cX4_setCrossing 10 = .ok (.goto 4, 3) := by decide +kernel
theorem dX4_setCrossing_13 : decode cX4_setCrossing 13 = .ok (.iconst 1, 1) := by decide +kernel
theorem dX4_setCrossing_14 : decode cX4_setCrossing 14 = .ok (.putfield 44, 3) := by decide +kernel
theorem dX4_setCrossing_17 : decode cX4_setCrossing 17 = .ok (.aload_n 0, 1) := by decide +kernel
theorem dX4_setCrossing_18 : decode cX4_setCrossing 18 = .ok (.getfield 44, 3) := by decide +kernel
theorem dX4_setCrossing_21 : decode cX4_setCrossing 21 = .ok (.ifCond .le 5, 3) := by decide +kernel
theorem dX4_setCrossing_24 : decode cX4_setCrossing 24 = .ok (.iconst 0, 1) := by decide +kernel
theorem dX4_setCrossing_25 : decode cX4_setCrossing 25 = .ok (.ireturn, 1) := by decide +kernel
theorem dX4_setCrossing_26 : decode cX4_setCrossing 26 = .ok (.aload_n 0, 1) := by decide +kernel
theorem dX4_setCrossing_27 : decode cX4_setCrossing 27 = .ok (.getfield 32, 3) := by decide +kernel
theorem dX4_setCrossing_30 : decode cX4_setCrossing 30 = .ok (.iload_n 1, 1) := by decide +kernel
theorem dX4_setCrossing_31 : decode cX4_setCrossing 31 = .ok (.baload, 1) := by decide +kernel
theorem dX4_setCrossing_32 : decode cX4_setCrossing 32 = .ok (.istore_n 3, 1) := by decide +kernel
theorem dX4_setCrossing_33 : decode cX4_setCrossing 33 = .ok (.aload_n 0, 1) := by decide +kernel
theorem dX4_setCrossing_34 : decode cX4_setCrossing 34 = .ok (.getfield 32, 3) := by decide +kernel
theorem dX4_setCrossing_37 : decode cX4_setCrossing 37 = .ok (.iload_n 1, 1) := by decide +kernel
theorem dX4_setCrossing_38 : decode cX4_setCrossing 38 = .ok (.iload_n 2, 1) := by decide +kernel
theorem dX4_setCrossing_39 : decode cX4_setCrossing 39 = .ok (.bastore, 1) := by decide +kernel
theorem dX4_setCrossing_40 : decode cX4_setCrossing 40 = .ok (.iload_n 3, 1) := by decide +kernel
theorem dX4_setCrossing_41 : decode cX4_setCrossing 41 = .ok (.ireturn, 1) := by decide +kernel
theorem dX4_servedBy_0 : decode cX4_servedBy 0 = .ok (.iconst (-1), 1) := by decide +kernel
theorem dX4_servedBy_1 : decode cX4_servedBy 1 = .ok (.istore_n 2, 1) := by decide +kernel
theorem dX4_servedBy_2 : decode cX4_servedBy 2 = .ok (.iconst 0, 1) := by decide +kernel
theorem dX4_servedBy_3 : decode cX4_servedBy 3 = .ok (.istore_n 3, 1) := by decide +kernel
theorem dX4_servedBy_4 : decode cX4_servedBy 4 = .ok (.iload_n 3, 1) := by decide +kernel
theorem dX4_servedBy_5 : decode cX4_servedBy 5 = .ok (.aload_n 0, 1) := by decide +kernel
theorem dX4_servedBy_6 : decode cX4_servedBy 6 = .ok (.getfield 67, 3) := by decide +kernel
theorem dX4_servedBy_9 : decode cX4_servedBy 9 = .ok (.if_icmp .ge 37, 3) := by decide +kernel
theorem dX4_servedBy_12 : decode cX4_servedBy 12 = .ok (.aload_n 0, 1) := by decide +kernel
theorem dX4_servedBy_13 : decode cX4_servedBy 13 = .ok (.getfield 28, 3) := by decide +kernel
theorem dX4_servedBy_16 : decode cX4_servedBy 16 = .ok (.iload_n 3, 1) := by decide +kernel
theorem dX4_servedBy_17 : decode cX4_servedBy 17 = .ok (.baload, 1) := by decide +kernel
theorem dX4_servedBy_18 : decode cX4_servedBy 18 = .ok (.ifCond .eq 20, 3) := by decide +kernel
theorem dX4_servedBy_21 : decode cX4_servedBy 21 = .ok (.iload_n 1, 1) := by decide +kernel
theorem dX4_servedBy_22 : decode cX4_servedBy 22 = .ok (.aload_n 0, 1) := by decide +kernel
theorem dX4_servedBy_23 : decode cX4_servedBy 23 = .ok (.getfield 19, 3) := by decide +kernel
theorem dX4_servedBy_26 : decode cX4_servedBy 26 = .ok (.iload_n 3, 1) := by decide +kernel
theorem dX4_servedBy_27 : decode cX4_servedBy 27 = .ok (.iaload, 1) := by decide +kernel
theorem dX4_servedBy_28 : decode cX4_servedBy 28 = .ok (.invokestatic 86, 3) := by decide +kernel
theorem dX4_servedBy_31 : decode cX4_servedBy 31 = .ok (.ifCond .eq 7, 3) := by decide +kernel
theorem dX4_servedBy_34 : decode cX4_servedBy 34 = .ok (.iload_n 3, 1) := by decide +kernel
theorem dX4_servedBy_35 : decode cX4_servedBy 35 = .ok (.goto 4, 3) := by decide +kernel
theorem dX4_servedBy_38 : decode cX4_servedBy 38 = .ok (.iload_n 2, 1) := by decide +kernel
theorem dX4_servedBy_39 : decode cX4_servedBy 39 = .ok (.istore_n 2, 1) := by decide +kernel
theorem dX4_servedBy_40 : decode cX4_servedBy 40 = .ok (.iinc 3 1, 3) := by decide +kernel
theorem dX4_servedBy_43 : decode cX4_servedBy 43 = .ok (.goto (-39), 3) := by decide +kernel
theorem dX4_servedBy_46 : decode cX4_servedBy 46 = .ok (.iload_n 2, 1) := by decide +kernel
theorem dX4_servedBy_47 : decode cX4_servedBy 47 = .ok (.ireturn, 1) := by decide +kernel
theorem dX4_served_0 : decode cX4_served 0 = .ok (.aload_n 0, 1) := by decide +kernel
theorem dX4_served_1 : decode cX4_served 1 = .ok (.iload_n 1, 1) := by decide +kernel
theorem dX4_served_2 : decode cX4_served 2 = .ok (.invokestatic 70, 3) := by decide +kernel
theorem dX4_served_5 : decode cX4_served 5 = .ok (.ifCond .ne 7, 3) := by decide +kernel
theorem dX4_served_8 : decode cX4_served 8 = .ok (.iconst 1, 1) := by decide +kernel
theorem dX4_served_9 : decode cX4_served 9 = .ok (.goto 17, 3) := by decide +kernel
theorem dX4_served_12 : decode cX4_served 12 = .ok (.aload_n 0, 1) := by decide +kernel
theorem dX4_served_13 : decode cX4_served 13 = .ok (.iload_n 1, 1) := by decide +kernel
theorem dX4_served_14 : decode cX4_served 14 = .ok (.invokevirtual 90, 3) := by decide +kernel
theorem dX4_served_17 : decode cX4_served 17 = .ok (.iconst (-1), 1) := by decide +kernel
theorem dX4_served_18 : decode cX4_served 18 = .ok (.if_icmp .ne 7, 3) := by decide +kernel
theorem dX4_served_21 : decode cX4_served 21 = .ok (.iconst 2, 1) := by decide +kernel
theorem dX4_served_22 : decode cX4_served 22 = .ok (.goto 4, 3) := by decide +kernel
theorem dX4_served_25 : decode cX4_served 25 = .ok (.iconst 0, 1) := by decide +kernel
theorem dX4_served_26 : decode cX4_served 26 = .ok (.putfield 44, 3) := by decide +kernel
theorem dX4_served_29 : decode cX4_served 29 = .ok (.aload_n 0, 1) := by decide +kernel
theorem dX4_served_30 : decode cX4_served 30 = .ok (.getfield 44, 3) := by decide +kernel
theorem dX4_served_33 : decode cX4_served 33 = .ok (.ifCond .ne 11, 3) := by decide +kernel
theorem dX4_served_36 : decode cX4_served 36 = .ok (.aload_n 0, 1) := by decide +kernel
theorem dX4_served_37 : decode cX4_served 37 = .ok (.iload_n 1, 1) := by decide +kernel
theorem dX4_served_38 : decode cX4_served 38 = .ok (.invokevirtual 90, 3) := by decide +kernel
theorem dX4_served_41 : decode cX4_served 41 = .ok (.goto 4, 3) := by decide +kernel
theorem dX4_served_44 : decode cX4_served 44 = .ok (.iconst (-1), 1) := by decide +kernel
theorem dX4_served_45 : decode cX4_served 45 = .ok (.ireturn, 1) := by decide +kernel
theorem dX4_covered_0 : decode cX4_covered 0 = .ok (.aload_n 0, 1) := by decide +kernel
theorem dX4_covered_1 : decode cX4_covered 1 = .ok (.iconst 0, 1) := by decide +kernel
theorem dX4_covered_2 : decode cX4_covered 2 = .ok (.putfield 44, 3) := by decide +kernel
theorem dX4_covered_5 : decode cX4_covered 5 = .ok (.iconst 0, 1) := by decide +kernel
theorem dX4_covered_6 : decode cX4_covered 6 = .ok (.istore_n 1, 1) := by decide +kernel
theorem dX4_covered_7 : decode cX4_covered 7 = .ok (.iconst 0, 1) := by decide +kernel
theorem dX4_covered_8 : decode cX4_covered 8 = .ok (.istore_n 2, 1) := by decide +kernel
theorem dX4_covered_9 : decode cX4_covered 9 = .ok (.iload_n 2, 1) := by decide +kernel
theorem dX4_covered_10 : decode cX4_covered 10 = .ok (.aload_n 0, 1) := by decide +kernel
theorem dX4_covered_11 : decode cX4_covered 11 = .ok (.getfield 67, 3) := by decide +kernel
theorem dX4_covered_14 : decode cX4_covered 14 = .ok (.if_icmp .ge 72, 3) := by decide +kernel
theorem dX4_covered_17 : decode cX4_covered 17 = .ok (.iconst 0, 1) := by decide +kernel
theorem dX4_covered_18 : decode cX4_covered 18 = .ok (.istore_n 3, 1) := by decide +kernel
theorem dX4_covered_19 : decode cX4_covered 19 = .ok (.iconst 0, 1) := by decide +kernel
theorem dX4_covered_20 : decode cX4_covered 20 = .ok (.istore 4, 2) := by decide +kernel
theorem dX4_covered_22 : decode cX4_covered 22 = .ok (.iload 4, 2) := by decide +kernel
theorem dX4_covered_24 : decode cX4_covered 24 = .ok (.sipush 341, 3) := by decide +kernel
theorem dX4_covered_27 : decode cX4_covered 27 = .ok (.if_icmp .ge 32, 3) := by decide +kernel
theorem dX4_covered_30 : decode cX4_covered 30 = .ok (.iload_n 3, 1) := by decide +kernel
theorem dX4_covered_31 : decode cX4_covered 31 = .ok (.ifCond .ne 16, 3) := by decide +kernel
theorem dX4_covered_34 : decode cX4_covered 34 = .ok (.aload_n 0, 1) := by decide +kernel
theorem dX4_covered_35 : decode cX4_covered 35 = .ok (.iload 4, 2) := by decide +kernel
theorem dX4_covered_37 : decode cX4_covered 37 = .ok (.invokestatic 93, 3) := by decide +kernel
theorem dX4_covered_40 : decode cX4_covered 40 = .ok (.invokevirtual 90, 3) := by decide +kernel
theorem dX4_covered_43 : decode cX4_covered 43 = .ok (.iload_n 2, 1) := by decide +kernel
theorem dX4_covered_44 : decode cX4_covered 44 = .ok (.if_icmp .ne 7, 3) := by decide +kernel
theorem dX4_covered_47 : decode cX4_covered 47 = .ok (.iconst 1, 1) := by decide +kernel
theorem dX4_covered_48 : decode cX4_covered 48 = .ok (.goto 4, 3) := by decide +kernel
theorem dX4_covered_51 : decode cX4_covered 51 = .ok (.iconst 0, 1) := by decide +kernel
theorem dX4_covered_52 : decode cX4_covered 52 = .ok (.istore_n 3, 1) := by decide +kernel
theorem dX4_covered_53 : decode cX4_covered 53 = .ok (.iinc 4 1, 3) := by decide +kernel
theorem dX4_covered_56 : decode cX4_covered 56 = .ok (.goto (-34), 3) := by decide +kernel
theorem dX4_covered_59 : decode cX4_covered 59 = .ok (.iload_n 1, 1) := by decide +kernel
theorem dX4_covered_60 : decode cX4_covered 60 = .ok (.aload_n 0, 1) := by decide +kernel
theorem dX4_covered_61 : decode cX4_covered 61 = .ok (.getfield 28, 3) := by decide +kernel
theorem dX4_covered_64 : decode cX4_covered 64 = .ok (.iload_n 2, 1) := by decide +kernel
theorem dX4_covered_65 : decode cX4_covered 65 = .ok (.baload, 1) := by decide +kernel
theorem dX4_covered_66 : decode cX4_covered 66 = .ok (.ifCond .eq 11, 3) := by decide +kernel
theorem dX4_covered_69 : decode cX4_covered 69 = .ok (.iload_n 3, 1) := by decide +kernel
theorem dX4_covered_70 : decode cX4_covered 70 = .ok (.ifCond .ne 7, 3) := by decide +kernel
theorem dX4_covered_73 : decode cX4_covered 73 = .ok (.iconst 1, 1) := by decide +kernel
theorem dX4_covered_74 : decode cX4_covered 74 = .ok (.goto 4, 3) := by decide +kernel
theorem dX4_covered_77 : decode cX4_covered 77 = .ok (.iconst 0, 1) := by decide +kernel
theorem dX4_covered_78 : decode cX4_covered 78 = .ok (.iadd, 1) := by decide +kernel
theorem dX4_covered_79 : decode cX4_covered 79 = .ok (.istore_n 1, 1) := by decide +kernel
theorem dX4_covered_80 : decode cX4_covered 80 = .ok (.iinc 2 1, 3) := by decide +kernel
theorem dX4_covered_83 : decode cX4_covered 83 = .ok (.goto (-74), 3) := by decide +kernel
theorem dX4_covered_86 : decode cX4_covered 86 = .ok (.iload_n 1, 1) := by decide +kernel
theorem dX4_covered_87 : decode cX4_covered 87 = .ok (.ireturn, 1) := by decide +kernel
theorem dX4_shown_0 : decode cX4_shown 0 = .ok (.aload_n 0, 1) := by decide +kernel
theorem dX4_shown_1 : decode cX4_shown 1 = .ok (.iload_n 1, 1) := by decide +kernel
theorem dX4_shown_2 : decode cX4_shown 2 = .ok (.invokevirtual 90, 3) := by decide +kernel
theorem dX4_shown_5 : decode cX4_shown 5 = .ok (.istore_n 2, 1) := by decide +kernel
theorem dX4_shown_6 : decode cX4_shown 6 = .ok (.iload_n 2, 1) := by decide +kernel
theorem dX4_shown_7 : decode cX4_shown 7 = .ok (.iconst (-1), 1) := by decide +kernel
theorem dX4_shown_8 : decode cX4_shown 8 = .ok (.if_icmp .eq 16, 3) := by decide +kernel
theorem dX4_shown_11 : decode cX4_shown 11 = .ok (.iload_n 1, 1) := by decide +kernel
theorem dX4_shown_12 : decode cX4_shown 12 = .ok (.aload_n 0, 1) := by decide +kernel
theorem dX4_shown_13 : decode cX4_shown 13 = .ok (.getfield 19, 3) := by decide +kernel
theorem dX4_shown_16 : decode cX4_shown 16 = .ok (.iload_n 2, 1) := by decide +kernel
theorem dX4_shown_17 : decode cX4_shown 17 = .ok (.iaload, 1) := by decide +kernel
theorem dX4_shown_18 : decode cX4_shown 18 = .ok (.invokestatic 96, 3) := by decide +kernel
theorem dX4_shown_21 : decode cX4_shown 21 = .ok (.ifCond .ne 5, 3) := by decide +kernel
theorem dX4_shown_24 : decode cX4_shown 24 = .ok (.iconst (-1), 1) := by decide +kernel
theorem dX4_shown_25 : decode cX4_shown 25 = .ok (.ireturn, 1) := by decide +kernel
theorem dX4_shown_26 : decode cX4_shown 26 = .ok (.iload_n 1, 1) := by decide +kernel
theorem dX4_shown_27 : decode cX4_shown 27 = .ok (.aload_n 0, 1) := by decide +kernel
theorem dX4_shown_28 : decode cX4_shown 28 = .ok (.getfield 19, 3) := by decide +kernel
theorem dX4_shown_31 : decode cX4_shown 31 = .ok (.iload_n 2, 1) := by decide +kernel
theorem dX4_shown_32 : decode cX4_shown 32 = .ok (.iaload, 1) := by decide +kernel
theorem dX4_shown_33 : decode cX4_shown 33 = .ok (.invokestatic 96, 3) := by decide +kernel
theorem dX4_shown_36 : decode cX4_shown 36 = .ok (.invokestatic 99, 3) := by decide +kernel

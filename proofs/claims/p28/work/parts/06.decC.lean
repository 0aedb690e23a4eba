theorem dX4_shown_39 : decode cX4_shown 39 = .ok (.istore_n 3, 1) := by decide +kernel
theorem dX4_shown_40 : decode cX4_shown 40 = .ok (.aload_n 0, 1) := by decide +kernel
theorem dX4_shown_41 : decode cX4_shown 41 = .ok (.getfield 25, 3) := by decide +kernel
theorem dX4_shown_44 : decode cX4_shown 44 = .ok (.iload_n 2, 1) := by decide +kernel
theorem dX4_shown_45 : decode cX4_shown 45 = .ok (.iaload, 1) := by decide +kernel
theorem dX4_shown_46 : decode cX4_shown 46 = .ok (.iconst (-1), 1) := by decide +kernel
theorem dX4_shown_47 : decode cX4_shown 47 = .ok (.if_icmp .ne 7, 3) := by decide +kernel
theorem dX4_shown_50 : decode cX4_shown 50 = .ok (.iconst (-1), 1) := by decide +kernel
theorem dX4_shown_51 : decode cX4_shown 51 = .ok (.goto 15, 3) := by decide +kernel
theorem dX4_shown_54 : decode cX4_shown 54 = .ok (.sipush 341, 3) := by decide +kernel
theorem dX4_shown_57 : decode cX4_shown 57 = .ok (.aload_n 0, 1) := by decide +kernel
theorem dX4_shown_58 : decode cX4_shown 58 = .ok (.getfield 25, 3) := by decide +kernel
theorem dX4_shown_61 : decode cX4_shown 61 = .ok (.iload_n 2, 1) := by decide +kernel
theorem dX4_shown_62 : decode cX4_shown 62 = .ok (.iaload, 1) := by decide +kernel
theorem dX4_shown_63 : decode cX4_shown 63 = .ok (.imul, 1) := by decide +kernel
theorem dX4_shown_64 : decode cX4_shown 64 = .ok (.iload_n 3, 1) := by decide +kernel
theorem dX4_shown_65 : decode cX4_shown 65 = .ok (.iadd, 1) := by decide +kernel
theorem dX4_shown_66 : decode cX4_shown 66 = .ok (.istore 4, 2) := by decide +kernel
theorem dX4_shown_68 : decode cX4_shown 68 = .ok (.iload 4, 2) := by decide +kernel
theorem dX4_shown_70 : decode cX4_shown 70 = .ok (.iconst (-1), 1) := by decide +kernel
theorem dX4_shown_71 : decode cX4_shown 71 = .ok (.if_icmp .eq 18, 3) := by decide +kernel
theorem dX4_shown_74 : decode cX4_shown 74 = .ok (.aload_n 0, 1) := by decide +kernel
theorem dX4_shown_75 : decode cX4_shown 75 = .ok (.getfield 7, 3) := by decide +kernel
theorem dX4_shown_78 : decode cX4_shown 78 = .ok (.iload 4, 2) := by decide +kernel
theorem dX4_shown_80 : decode cX4_shown 80 = .ok (.iaload, 1) := by decide +kernel
theorem dX4_shown_81 : decode cX4_shown 81 = .ok (.ifCond .eq 8, 3) := by decide +kernel
theorem dX4_shown_84 : decode cX4_shown 84 = .ok (.iload 4, 2) := by decide +kernel
theorem dX4_shown_86 : decode cX4_shown 86 = .ok (.goto 15, 3) := by decide +kernel
theorem dX4_shown_89 : decode cX4_shown 89 = .ok (.sipush 341, 3) := by decide +kernel
theorem dX4_shown_92 : decode cX4_shown 92 = .ok (.aload_n 0, 1) := by decide +kernel
theorem dX4_shown_93 : decode cX4_shown 93 = .ok (.getfield 22, 3) := by decide +kernel
theorem dX4_shown_96 : decode cX4_shown 96 = .ok (.iload_n 2, 1) := by decide +kernel
theorem dX4_shown_97 : decode cX4_shown 97 = .ok (.iaload, 1) := by decide +kernel
theorem dX4_shown_98 : decode cX4_shown 98 = .ok (.imul, 1) := by decide +kernel
theorem dX4_shown_99 : decode cX4_shown 99 = .ok (.iload_n 3, 1) := by decide +kernel
theorem dX4_shown_100 : decode cX4_shown 100 = .ok (.iadd, 1) := by decide +kernel
theorem dX4_shown_101 : decode cX4_shown 101 = .ok (.istore 5, 2) := by decide +kernel
theorem dX4_shown_103 : decode cX4_shown 103 = .ok (.aload_n 0, 1) := by decide +kernel
theorem dX4_shown_104 : decode cX4_shown 104 = .ok (.getfield 7, 3) := by decide +kernel
theorem dX4_shown_107 : decode cX4_shown 107 = .ok (.iload 5, 2) := by decide +kernel
theorem dX4_shown_109 : decode cX4_shown 109 = .ok (.iaload, 1) := by decide +kernel
theorem dX4_shown_110 : decode cX4_shown 110 = .ok (.iconst 1, 1) := by decide +kernel
theorem dX4_shown_111 : decode cX4_shown 111 = .ok (.if_icmp .eq 14, 3) := by decide +kernel
theorem dX4_shown_114 : decode cX4_shown 114 = .ok (.aload_n 0, 1) := by decide +kernel
theorem dX4_shown_115 : decode cX4_shown 115 = .ok (.getfield 7, 3) := by decide +kernel
theorem dX4_shown_118 : decode cX4_shown 118 = .ok (.iload 5, 2) := by decide +kernel
theorem dX4_shown_120 : decode cX4_shown 120 = .ok (.iaload, 1) := by decide +kernel
theorem dX4_shown_121 : decode cX4_shown 121 = .ok (.iconst 2, 1) := by decide +kernel
theorem dX4_shown_122 : decode cX4_shown 122 = .ok (.if_icmp .ne 8, 3) := by decide +kernel
theorem dX4_shown_125 : decode cX4_shown 125 = .ok (.iload 5, 2) := by decide +kernel
theorem dX4_shown_127 : decode cX4_shown 127 = .ok (.goto 4, 3) := by decide +kernel
theorem dX4_shown_130 : decode cX4_shown 130 = .ok (.iconst (-1), 1) := by decide +kernel
theorem dX4_shown_131 : decode cX4_shown 131 = .ok (.ireturn, 1) := by decide +kernel
theorem dX4_used_0 : decode cX4_used 0 = .ok (.iconst 0, 1) := by decide +kernel
theorem dX4_used_1 : decode cX4_used 1 = .ok (.istore_n 3, 1) := by decide +kernel
theorem dX4_used_2 : decode cX4_used 2 = .ok (.iconst 0, 1) := by decide +kernel
theorem dX4_used_3 : decode cX4_used 3 = .ok (.istore 4, 2) := by decide +kernel
theorem dX4_used_5 : decode cX4_used 5 = .ok (.iload 4, 2) := by decide +kernel
theorem dX4_used_7 : decode cX4_used 7 = .ok (.sipush 2046, 3) := by decide +kernel
theorem dX4_used_10 : decode cX4_used 10 = .ok (.if_icmp .ge 51, 3) := by decide +kernel
theorem dX4_used_13 : decode cX4_used 13 = .ok (.iload_n 3, 1) := by decide +kernel
theorem dX4_used_14 : decode cX4_used 14 = .ok (.aload_n 0, 1) := by decide +kernel
theorem dX4_used_15 : decode cX4_used 15 = .ok (.getfield 7, 3) := by decide +kernel
theorem dX4_used_18 : decode cX4_used 18 = .ok (.iload 4, 2) := by decide +kernel
theorem dX4_used_20 : decode cX4_used 20 = .ok (.iaload, 1) := by decide +kernel
theorem dX4_used_21 : decode cX4_used 21 = .ok (.iconst 1, 1) := by decide +kernel
theorem dX4_used_22 : decode cX4_used 22 = .ok (.if_icmp .ne 30, 3) := by decide +kernel
theorem dX4_used_25 : decode cX4_used 25 = .ok (.aload_n 0, 1) := by decide +kernel
theorem dX4_used_26 : decode cX4_used 26 = .ok (.getfield 13, 3) := by decide +kernel
theorem dX4_used_29 : decode cX4_used 29 = .ok (.iload 4, 2) := by decide +kernel
theorem dX4_used_31 : decode cX4_used 31 = .ok (.iaload, 1) := by decide +kernel
theorem dX4_used_32 : decode cX4_used 32 = .ok (.iload_n 1, 1) := by decide +kernel
theorem dX4_used_33 : decode cX4_used 33 = .ok (.if_icmp .ne 19, 3) := by decide +kernel
theorem dX4_used_36 : decode cX4_used 36 = .ok (.iload 4, 2) := by decide +kernel
theorem dX4_used_38 : decode cX4_used 38 = .ok (.iload_n 2, 1) := by decide +kernel
theorem dX4_used_39 : decode cX4_used 39 = .ok (.if_icmp .eq 13, 3) := by decide +kernel
theorem dX4_used_42 : decode cX4_used 42 = .ok (.aload_n 0, 1) := by decide +kernel
theorem dX4_used_43 : decode cX4_used 43 = .ok (.getfield 16, 3) := by decide +kernel
theorem dX4_used_46 : decode cX4_used 46 = .ok (.iload 4, 2) := by decide +kernel
theorem dX4_used_48 : decode cX4_used 48 = .ok (.iaload, 1) := by decide +kernel
theorem dX4_used_49 : decode cX4_used 49 = .ok (.goto 4, 3) := by decide +kernel
theorem dX4_used_52 : decode cX4_used 52 = .ok (.iconst 0, 1) := by decide +kernel
theorem dX4_used_53 : decode cX4_used 53 = .ok (.iadd, 1) := by decide +kernel
theorem dX4_used_54 : decode cX4_used 54 = .ok (.istore_n 3, 1) := by decide +kernel
theorem dX4_used_55 : decode cX4_used 55 = .ok (.iinc 4 1, 3) := by decide +kernel
theorem dX4_used_58 : decode cX4_used 58 = .ok (.goto (-53), 3) := by decide +kernel
theorem dX4_used_61 : decode cX4_used 61 = .ok (.iload_n 3, 1) := by decide +kernel
theorem dX4_used_62 : decode cX4_used 62 = .ok (.ireturn, 1) := by decide +kernel
theorem dX4_isOwner_0 : decode cX4_isOwner 0 = .ok (.iload_n 0, 1) := by decide +kernel
theorem dX4_isOwner_1 : decode cX4_isOwner 1 = .ok (.i2l, 1) := by decide +kernel
theorem dX4_isOwner_2 : decode cX4_isOwner 2 = .ok (.lconst 0, 1) := by decide +kernel
theorem dX4_isOwner_3 : decode cX4_isOwner 3 = .ok (.ldc2_w 102, 3) := by decide +kernel
theorem dX4_isOwner_6 : decode cX4_isOwner 6 = .ok (.invokestatic 50, 3) := by decide +kernel
theorem dX4_isOwner_9 : decode cX4_isOwner 9 = .ok (.ireturn, 1) := by decide +kernel
theorem dX4_canWrite_0 : decode cX4_canWrite 0 = .ok (.aload_n 0, 1) := by decide +kernel
theorem dX4_canWrite_1 : decode cX4_canWrite 1 = .ok (.iload_n 1, 1) := by decide +kernel
theorem dX4_canWrite_2 : decode cX4_canWrite 2 = .ok (.invokevirtual 90, 3) := by decide +kernel
theorem dX4_canWrite_5 : decode cX4_canWrite 5 = .ok (.istore_n 2, 1) := by decide +kernel
theorem dX4_canWrite_6 : decode cX4_canWrite 6 = .ok (.iload_n 2, 1) := by decide +kernel
theorem dX4_canWrite_7 : decode cX4_canWrite 7 = .ok (.iconst (-1), 1) := by decide +kernel
theorem dX4_canWrite_8 : decode cX4_canWrite 8 = .ok (.if_icmp .eq 20, 3) := by decide +kernel
theorem dX4_canWrite_11 : decode cX4_canWrite 11 = .ok (.iload_n 1, 1) := by decide +kernel
theorem dX4_canWrite_12 : decode cX4_canWrite 12 = .ok (.aload_n 0, 1) := by decide +kernel
theorem dX4_canWrite_13 : decode cX4_canWrite 13 = .ok (.getfield 19, 3) := by decide +kernel
theorem dX4_canWrite_16 : decode cX4_canWrite 16 = .ok (.iload_n 2, 1) := by decide +kernel
theorem dX4_canWrite_17 : decode cX4_canWrite 17 = .ok (.iaload, 1) := by decide +kernel
theorem dX4_canWrite_18 : decode cX4_canWrite 18 = .ok (.invokestatic 96, 3) := by decide +kernel
theorem dX4_canWrite_21 : decode cX4_canWrite 21 = .ok (.ifCond .eq 7, 3) := by decide +kernel
theorem dX4_canWrite_24 : decode cX4_canWrite 24 = .ok (.iconst 1, 1) := by decide +kernel
theorem dX4_canWrite_25 : decode cX4_canWrite 25 = .ok (.goto 4, 3) := by decide +kernel
theorem dX4_canWrite_28 : decode cX4_canWrite 28 = .ok (.iconst 0, 1) := by decide +kernel
theorem dX4_canWrite_29 : decode cX4_canWrite 29 = .ok (.ireturn, 1) := by decide +kernel
theorem dX4_target_0 : decode cX4_target 0 = .ok (.aload_n 0, 1) := by decide +kernel
theorem dX4_target_1 : decode cX4_target 1 = .ok (.iload_n 1, 1) := by decide +kernel
theorem dX4_target_2 : decode cX4_target 2 = .ok (.invokevirtual 90, 3) := by decide +kernel
theorem dX4_target_5 : decode cX4_target 5 = .ok (.istore_n 2, 1) := by decide +kernel
theorem dX4_target_6 : decode cX4_target 6 = .ok (.sipush 341, 3) := by decide +kernel
theorem dX4_target_9 : decode cX4_target 9 = .ok (.aload_n 0, 1) := by decide +kernel
theorem dX4_target_10 : decode cX4_target 10 = .ok (.getfield 25, 3) := by decide +kernel
theorem dX4_target_13 : decode cX4_target 13 = .ok (.iload_n 2, 1) := by decide +kernel
theorem dX4_target_14 : decode cX4_target 14 = .ok (.iaload, 1) := by decide +kernel
theorem dX4_target_15 : decode cX4_target 15 = .ok (.iconst (-1), 1) := by decide +kernel
theorem dX4_target_16 : decode cX4_target 16 = .ok (.if_icmp .ne 12, 3) := by decide +kernel
theorem dX4_target_19 : decode cX4_target 19 = .ok (.aload_n 0, 1) := by decide +kernel
theorem dX4_target_20 : decode cX4_target 20 = .ok (.getfield 22, 3) := by decide +kernel
theorem dX4_target_23 : decode cX4_target 23 = .ok (.iload_n 2, 1) := by decide +kernel
theorem dX4_target_24 : decode cX4_target 24 = .ok (.iaload, 1) := by decide +kernel
theorem dX4_target_25 : decode cX4_target 25 = .ok (.goto 9, 3) := by decide +kernel
theorem dX4_target_28 : decode cX4_target 28 = .ok (.aload_n 0, 1) := by decide +kernel
theorem dX4_target_29 : decode cX4_target 29 = .ok (.getfield 25, 3) := by decide +kernel
theorem dX4_target_32 : decode cX4_target 32 = .ok (.iload_n 2, 1) := by decide +kernel
theorem dX4_target_33 : decode cX4_target 33 = .ok (.iaload, 1) := by decide +kernel
theorem dX4_target_34 : decode cX4_target 34 = .ok (.imul, 1) := by decide +kernel
theorem dX4_target_35 : decode cX4_target 35 = .ok (.iload_n 1, 1) := by decide +kernel
theorem dX4_target_36 : decode cX4_target 36 = .ok (.aload_n 0, 1) := by decide +kernel
theorem dX4_target_37 : decode cX4_target 37 = .ok (.getfield 19, 3) := by decide +kernel
theorem dX4_target_40 : decode cX4_target 40 = .ok (.iload_n 2, 1) := by decide +kernel
theorem dX4_target_41 : decode cX4_target 41 = .ok (.iaload, 1) := by decide +kernel
theorem dX4_target_42 : decode cX4_target 42 = .ok (.invokestatic 96, 3) := by decide +kernel
theorem dX4_target_45 : decode cX4_target 45 = .ok (.invokestatic 99, 3) := by decide +kernel
theorem dX4_target_48 : decode cX4_target 48 = .ok (.iadd, 1) := by decide +kernel
theorem dX4_target_49 : decode cX4_target 49 = .ok (.ireturn, 1) := by decide +kernel
theorem dX4_puts_0 : decode cX4_puts 0 = .ok (.aload_n 0, 1) := by decide +kernel
theorem dX4_puts_1 : decode cX4_puts 1 = .ok (.iload_n 1, 1) := by decide +kernel
theorem dX4_puts_2 : decode cX4_puts 2 = .ok (.invokevirtual 104, 3) := by decide +kernel
theorem dX4_puts_5 : decode cX4_puts 5 = .ok (.istore 5, 2) := by decide +kernel
theorem dX4_puts_7 : decode cX4_puts 7 = .ok (.aload_n 0, 1) := by decide +kernel
theorem dX4_puts_8 : decode cX4_puts 8 = .ok (.iload_n 1, 1) := by decide +kernel
theorem dX4_puts_9 : decode cX4_puts 9 = .ok (.invokevirtual 107, 3) := by decide +kernel
theorem dX4_puts_12 : decode cX4_puts 12 = .ok (.istore 6, 2) := by decide +kernel
theorem dX4_puts_14 : decode cX4_puts 14 = .ok (.aload_n 0, 1) := by decide +kernel
theorem dX4_puts_15 : decode cX4_puts 15 = .ok (.dup, 1) := by decide +kernel
theorem dX4_puts_16 : decode cX4_puts 16 = .ok (.getfield 110, 3) := by decide +kernel
theorem dX4_puts_19 : decode cX4_puts 19 = .ok (.iload 6, 2) := by decide +kernel
theorem dX4_puts_21 : decode cX4_puts 21 = .ok (.iconst (-1), 1) := by decide +kernel
theorem dX4_puts_22 : decode cX4_puts 22 = .ok (.if_icmp .eq 14, 3) := by decide +kernel
theorem dX4_puts_25 : decode cX4_puts 25 = .ok (.iload 6, 2) := by decide +kernel
theorem dX4_puts_27 : decode cX4_puts 27 = .ok (.iload 5, 2) := by decide +kernel
theorem dX4_puts_29 : decode cX4_puts 29 = .ok (.if_icmp .eq 7, 3) := by decide +kernel
theorem dX4_puts_32 : decode cX4_puts 32 = .ok (.iconst 1, 1) := by decide +kernel
theorem dX4_puts_33 : decode cX4_puts 33 = .ok (.goto 4, 3) := by decide +kernel
theorem dX4_puts_36 : decode cX4_puts 36 = .ok (.iconst 0, 1) := by decide +kernel
theorem dX4_puts_37 : decode cX4_puts 37 = .ok (.iadd, 1) := by decide +kernel
theorem dX4_puts_38 : decode cX4_puts 38 = .ok (.putfield 110, 3) := by decide +kernel
theorem dX4_puts_41 : decode cX4_puts 41 = .ok (.aload_n 0, 1) := by decide +kernel
theorem dX4_puts_42 : decode cX4_puts 42 = .ok (.getfield 7, 3) := by decide +kernel
theorem dX4_puts_45 : decode cX4_puts 45 = .ok (.iload 5, 2) := by decide +kernel
theorem dX4_puts_47 : decode cX4_puts 47 = .ok (.iload_n 2, 1) := by decide +kernel
theorem dX4_puts_48 : decode cX4_puts 48 = .ok (.iastore, 1) := by decide +kernel
theorem dX4_puts_49 : decode cX4_puts 49 = .ok (.aload_n 0, 1) := by decide +kernel
theorem dX4_puts_50 : decode cX4_puts 50 = .ok (.getfield 13, 3) := by decide +kernel
theorem dX4_puts_53 : decode cX4_puts 53 = .ok (.iload 5, 2) := by decide +kernel
theorem dX4_puts_55 : decode cX4_puts 55 = .ok (.iload_n 3, 1) := by decide +kernel
theorem dX4_puts_56 : decode cX4_puts 56 = .ok (.iastore, 1) := by decide +kernel
theorem dX4_puts_57 : decode cX4_puts 57 = .ok (.aload_n 0, 1) := by decide +kernel
theorem dX4_puts_58 : decode cX4_puts 58 = .ok (.getfield 16, 3) := by decide +kernel
theorem dX4_puts_61 : decode cX4_puts 61 = .ok (.iload 5, 2) := by decide +kernel
theorem dX4_puts_63 : decode cX4_puts 63 = .ok (.iload 4, 2) := by decide +kernel
theorem dX4_puts_65 : decode cX4_puts 65 = .ok (.iastore, 1) := by decide +kernel
theorem dX4_puts_66 : decode cX4_puts 66 = .ok (.return_, 1) := by decide +kernel
theorem dX4_write_0 : decode cX4_write 0 = .ok (.iload_n 1, 1) := by decide +kernel
theorem dX4_write_1 : decode cX4_write 1 = .ok (.invokestatic 113, 3) := by decide +kernel
theorem dX4_write_4 : decode cX4_write 4 = .ok (.ifCond .eq 22, 3) := by decide +kernel
theorem dX4_write_7 : decode cX4_write 7 = .ok (.iload_n 3, 1) := by decide +kernel
theorem dX4_write_8 : decode cX4_write 8 = .ok (.i2l, 1) := by decide +kernel
theorem dX4_write_9 : decode cX4_write 9 = .ok (.lconst 0, 1) := by decide +kernel
theorem dX4_write_10 : decode cX4_write 10 = .ok (.ldc2_w 116, 3) := by decide +kernel
theorem dX4_write_13 : decode cX4_write 13 = .ok (.invokestatic 50, 3) := by decide +kernel
theorem dX4_write_16 : decode cX4_write 16 = .ok (.ifCond .eq 10, 3) := by decide +kernel
theorem dX4_write_19 : decode cX4_write 19 = .ok (.iload_n 2, 1) := by decide +kernel
theorem dX4_write_20 : decode cX4_write 20 = .ok (.invokestatic 70, 3) := by decide +kernel
theorem dX4_write_23 : decode cX4_write 23 = .ok (.ifCond .ne 10, 3) := by decide +kernel
theorem dX4_write_26 : decode cX4_write 26 = .ok (.aload_n 0, 1) := by decide +kernel
theorem dX4_write_27 : decode cX4_write 27 = .ok (.iconst 1, 1) := by decide +kernel
theorem dX4_write_28 : decode cX4_write 28 = .ok (.putfield 44, 3) := by decide +kernel
theorem dX4_write_31 : decode cX4_write 31 = .ok (.iconst (-1), 1) := by decide +kernel
theorem dX4_write_32 : decode cX4_write 32 = .ok (.ireturn, 1) := by decide +kernel
theorem dX4_write_33 : decode cX4_write 33 = .ok (.aload_n 0, 1) := by decide +kernel
theorem dX4_write_34 : decode cX4_write 34 = .ok (.iload_n 2, 1) := by decide +kernel
theorem dX4_write_35 : decode cX4_write 35 = .ok (.invokevirtual 118, 3) := by decide +kernel
theorem dX4_write_38 : decode cX4_write 38 = .ok (.ifCond .ne 10, 3) := by decide +kernel
theorem dX4_write_41 : decode cX4_write 41 = .ok (.aload_n 0, 1) := by decide +kernel
theorem dX4_write_42 : decode cX4_write 42 = .ok (.iconst 2, 1) := by decide +kernel
theorem dX4_write_43 : decode cX4_write 43 = .ok (.putfield 44, 3) := by decide +kernel
theorem dX4_write_46 : decode cX4_write 46 = .ok (.iconst (-1), 1) := by decide +kernel
theorem dX4_write_47 : decode cX4_write 47 = .ok (.ireturn, 1) := by decide +kernel
theorem dX4_write_48 : decode cX4_write 48 = .ok (.aload_n 0, 1) := by decide +kernel
theorem dX4_write_49 : decode cX4_write 49 = .ok (.iload_n 1, 1) := by decide +kernel
theorem dX4_write_50 : decode cX4_write 50 = .ok (.aload_n 0, 1) := by decide +kernel
theorem dX4_write_51 : decode cX4_write 51 = .ok (.iload_n 2, 1) := by decide +kernel
theorem dX4_write_52 : decode cX4_write 52 = .ok (.invokevirtual 104, 3) := by decide +kernel
theorem dX4_write_55 : decode cX4_write 55 = .ok (.invokevirtual 121, 3) := by decide +kernel
theorem dX4_write_58 : decode cX4_write 58 = .ok (.iload_n 3, 1) := by decide +kernel
theorem dX4_write_59 : decode cX4_write 59 = .ok (.iadd, 1) := by decide +kernel
theorem dX4_write_60 : decode cX4_write 60 = .ok (.istore 4, 2) := by decide +kernel
theorem dX4_write_62 : decode cX4_write 62 = .ok (.aload_n 0, 1) := by decide +kernel
theorem dX4_write_63 : decode cX4_write 63 = .ok (.iload 4, 2) := by decide +kernel
theorem dX4_write_65 : decode cX4_write 65 = .ok (.aload_n 0, 1) := by decide +kernel
theorem dX4_write_66 : decode cX4_write 66 = .ok (.getfield 35, 3) := by decide +kernel
theorem dX4_write_69 : decode cX4_write 69 = .ok (.iload_n 1, 1) := by decide +kernel
theorem dX4_write_70 : decode cX4_write 70 = .ok (.iaload, 1) := by decide +kernel
theorem dX4_write_71 : decode cX4_write 71 = .ok (.if_icmp .le 7, 3) := by decide +kernel
theorem dX4_write_74 : decode cX4_write 74 = .ok (.iconst 3, 1) := by decide +kernel
theorem dX4_write_75 : decode cX4_write 75 = .ok (.goto 4, 3) := by decide +kernel
theorem dX4_write_78 : decode cX4_write 78 = .ok (.iconst 0, 1) := by decide +kernel
theorem dX4_write_79 : decode cX4_write 79 = .ok (.putfield 44, 3) := by decide +kernel
theorem dX4_write_82 : decode cX4_write 82 = .ok (.aload_n 0, 1) := by decide +kernel
theorem dX4_write_83 : decode cX4_write 83 = .ok (.getfield 44, 3) := by decide +kernel
theorem dX4_write_86 : decode cX4_write 86 = .ok (.ifCond .le 5, 3) := by decide +kernel
theorem dX4_write_89 : decode cX4_write 89 = .ok (.iconst (-1), 1) := by decide +kernel
theorem dX4_write_90 : decode cX4_write 90 = .ok (.ireturn, 1) := by decide +kernel
theorem dX4_write_91 : decode cX4_write 91 = .ok (.aload_n 0, 1) := by decide +kernel
theorem dX4_write_92 : decode cX4_write 92 = .ok (.iload_n 2, 1) := by decide +kernel
theorem dX4_write_93 : decode cX4_write 93 = .ok (.iconst 1, 1) := by decide +kernel
theorem dX4_write_94 : decode cX4_write 94 = .ok (.iload_n 1, 1) := by decide +kernel
theorem dX4_write_95 : decode cX4_write 95 = .ok (.iload_n 3, 1) := by decide +kernel
theorem dX4_write_96 : decode cX4_write 96 = .ok (.invokevirtual 124, 3) := by decide +kernel
theorem dX4_write_99 : decode cX4_write 99 = .ok (.iload 4, 2) := by decide +kernel
theorem dX4_write_101 : decode cX4_write 101 = .ok (.ireturn, 1) := by decide +kernel
theorem dX4_link_0 : decode cX4_link 0 = .ok (.iload_n 1, 1) := by decide +kernel
theorem dX4_link_1 : decode cX4_link 1 = .ok (.invokestatic 113, 3) := by decide +kernel
theorem dX4_link_4 : decode cX4_link 4 = .ok (.ifCond .eq 17, 3) := by decide +kernel
theorem dX4_link_7 : decode cX4_link 7 = .ok (.iload_n 2, 1) := by decide +kernel
theorem dX4_link_8 : decode cX4_link 8 = .ok (.invokestatic 70, 3) := by decide +kernel
theorem dX4_link_11 : decode cX4_link 11 = .ok (.ifCond .eq 10, 3) := by decide +kernel
theorem dX4_link_14 : decode cX4_link 14 = .ok (.iload_n 3, 1) := by decide +kernel
theorem dX4_link_15 : decode cX4_link 15 = .ok (.invokestatic 70, 3) := by decide +kernel
theorem dX4_link_18 : decode cX4_link 18 = .ok (.ifCond .ne 10, 3) := by decide +kernel
theorem dX4_link_21 : decode cX4_link 21 = .ok (.aload_n 0, 1) := by decide +kernel
theorem dX4_link_22 : decode cX4_link 22 = .ok (.iconst 1, 1) := by decide +kernel
theorem dX4_link_23 : decode cX4_link 23 = .ok (.putfield 44, 3) := by decide +kernel
theorem dX4_link_26 : decode cX4_link 26 = .ok (.iconst (-1), 1) := by decide +kernel
theorem dX4_link_27 : decode cX4_link 27 = .ok (.ireturn, 1) := by decide +kernel
theorem dX4_link_28 : decode cX4_link 28 = .ok (.aload_n 0, 1) := by decide +kernel
theorem dX4_link_29 : decode cX4_link 29 = .ok (.aload_n 0, 1) := by decide +kernel
theorem dX4_link_30 : decode cX4_link 30 = .ok (.iload_n 2, 1) := by decide +kernel
theorem dX4_link_31 : decode cX4_link 31 = .ok (.invokevirtual 118, 3) := by decide +kernel
theorem dX4_link_34 : decode cX4_link 34 = .ok (.ifCond .eq 7, 3) := by decide +kernel
theorem dX4_link_37 : decode cX4_link 37 = .ok (.iconst 0, 1) := by decide +kernel
theorem dX4_link_38 : decode cX4_link 38 = .ok (.goto 4, 3) := by decide +kernel
theorem dX4_link_41 : decode cX4_link 41 = .ok (.iconst 2, 1) := by decide +kernel
theorem dX4_link_42 : decode cX4_link 42 = .ok (.putfield 44, 3) := by decide +kernel
theorem dX4_link_45 : decode cX4_link 45 = .ok (.aload_n 0, 1) := by decide +kernel
theorem dX4_link_46 : decode cX4_link 46 = .ok (.getfield 44, 3) := by decide +kernel
theorem dX4_link_49 : decode cX4_link 49 = .ok (.ifCond .le 5, 3) := by decide +kernel
theorem dX4_link_52 : decode cX4_link 52 = .ok (.iconst (-1), 1) := by decide +kernel
theorem dX4_link_53 : decode cX4_link 53 = .ok (.ireturn, 1) := by decide +kernel
theorem dX4_link_54 : decode cX4_link 54 = .ok (.aload_n 0, 1) := by decide +kernel
theorem dX4_link_55 : decode cX4_link 55 = .ok (.iload_n 2, 1) := by decide +kernel
theorem dX4_link_56 : decode cX4_link 56 = .ok (.iconst 2, 1) := by decide +kernel
theorem dX4_link_57 : decode cX4_link 57 = .ok (.iload_n 1, 1) := by decide +kernel
theorem dX4_link_58 : decode cX4_link 58 = .ok (.iload_n 3, 1) := by decide +kernel
theorem dX4_link_59 : decode cX4_link 59 = .ok (.invokevirtual 124, 3) := by decide +kernel
theorem dX4_link_62 : decode cX4_link 62 = .ok (.iconst 0, 1) := by decide +kernel
theorem dX4_link_63 : decode cX4_link 63 = .ok (.istore 4, 2) := by decide +kernel
theorem dX4_link_65 : decode cX4_link 65 = .ok (.iconst 0, 1) := by decide +kernel
theorem dX4_link_66 : decode cX4_link 66 = .ok (.istore 5, 2) := by decide +kernel
theorem dX4_link_68 : decode cX4_link 68 = .ok (.iload 5, 2) := by decide +kernel
theorem dX4_link_70 : decode cX4_link 70 = .ok (.sipush 2046, 3) := by decide +kernel
theorem dX4_link_73 : decode cX4_link 73 = .ok (.if_icmp .ge 30, 3) := by decide +kernel
theorem dX4_link_76 : decode cX4_link 76 = .ok (.iload 4, 2) := by decide +kernel
theorem dX4_link_78 : decode cX4_link 78 = .ok (.aload_n 0, 1) := by decide +kernel
theorem dX4_link_79 : decode cX4_link 79 = .ok (.getfield 7, 3) := by decide +kernel
theorem dX4_link_82 : decode cX4_link 82 = .ok (.iload 5, 2) := by decide +kernel
theorem dX4_link_84 : decode cX4_link 84 = .ok (.iaload, 1) := by decide +kernel
theorem dX4_link_85 : decode cX4_link 85 = .ok (.iconst 2, 1) := by decide +kernel
theorem dX4_link_86 : decode cX4_link 86 = .ok (.if_icmp .ne 7, 3) := by decide +kernel
theorem dX4_link_89 : decode cX4_link 89 = .ok (.iconst 1, 1) := by decide +kernel
theorem dX4_link_90 : decode cX4_link 90 = .ok (.goto 4, 3) := by decide +kernel
theorem dX4_link_93 : decode cX4_link 93 = .ok (.iconst 0, 1) := by decide +kernel
theorem dX4_link_94 : decode cX4_link 94 = .ok (.iadd, 1) := by decide +kernel
theorem dX4_link_95 : decode cX4_link 95 = .ok (.istore 4, 2) := by decide +kernel
theorem dX4_link_97 : decode cX4_link 97 = .ok (.iinc 5 1, 3) := by decide +kernel
theorem dX4_link_100 : decode cX4_link 100 = .ok (.goto (-32), 3) := by decide +kernel
theorem dX4_link_103 : decode cX4_link 103 = .ok (.iload 4, 2) := by decide +kernel
theorem dX4_link_105 : decode cX4_link 105 = .ok (.ireturn, 1) := by decide +kernel
theorem dX4_asks_0 : decode cX4_asks 0 = .ok (.aload_n 0, 1) := by decide +kernel
theorem dX4_asks_1 : decode cX4_asks 1 = .ok (.iload_n 1, 1) := by decide +kernel
theorem dX4_asks_2 : decode cX4_asks 2 = .ok (.invokestatic 70, 3) := by decide +kernel
theorem dX4_asks_5 : decode cX4_asks 5 = .ok (.ifCond .eq 7, 3) := by decide +kernel
theorem dX4_asks_8 : decode cX4_asks 8 = .ok (.iconst 0, 1) := by decide +kernel
theorem dX4_asks_9 : decode cX4_asks 9 = .ok (.goto 4, 3) := by decide +kernel
theorem dX4_asks_12 : decode cX4_asks 12 = .ok (.iconst 1, 1) := by decide +kernel
theorem dX4_asks_13 : decode cX4_asks 13 = .ok (.putfield 44, 3) := by decide +kernel
theorem dX4_asks_16 : decode cX4_asks 16 = .ok (.aload_n 0, 1) := by decide +kernel
theorem dX4_asks_17 : decode cX4_asks 17 = .ok (.getfield 44, 3) := by decide +kernel
theorem dX4_asks_20 : decode cX4_asks 20 = .ok (.ifCond .ne 7, 3) := by decide +kernel
theorem dX4_asks_23 : decode cX4_asks 23 = .ok (.iconst 1, 1) := by decide +kernel
theorem dX4_asks_24 : decode cX4_asks 24 = .ok (.goto 4, 3) := by decide +kernel
theorem dX4_asks_27 : decode cX4_asks 27 = .ok (.iconst 0, 1) := by decide +kernel
theorem dX4_asks_28 : decode cX4_asks 28 = .ok (.ireturn, 1) := by decide +kernel
theorem dX4_remove_0 : decode cX4_remove 0 = .ok (.aload_n 0, 1) := by decide +kernel
theorem dX4_remove_1 : decode cX4_remove 1 = .ok (.iload_n 1, 1) := by decide +kernel
theorem dX4_remove_2 : decode cX4_remove 2 = .ok (.invokevirtual 128, 3) := by decide +kernel
theorem dX4_remove_5 : decode cX4_remove 5 = .ok (.ifCond .ne 5, 3) := by decide +kernel
theorem dX4_remove_8 : decode cX4_remove 8 = .ok (.iconst (-1), 1) := by decide +kernel
theorem dX4_remove_9 : decode cX4_remove 9 = .ok (.ireturn, 1) := by decide +kernel
theorem dX4_remove_10 : decode cX4_remove 10 = .ok (.aload_n 0, 1) := by decide +kernel
theorem dX4_remove_11 : decode cX4_remove 11 = .ok (.iload_n 1, 1) := by decide +kernel
theorem dX4_remove_12 : decode cX4_remove 12 = .ok (.invokevirtual 107, 3) := by decide +kernel
theorem dX4_remove_15 : decode cX4_remove 15 = .ok (.istore_n 2, 1) := by decide +kernel
theorem dX4_remove_16 : decode cX4_remove 16 = .ok (.aload_n 0, 1) := by decide +kernel
theorem dX4_remove_17 : decode cX4_remove 17 = .ok (.iload_n 2, 1) := by decide +kernel
theorem dX4_remove_18 : decode cX4_remove 18 = .ok (.iconst (-1), 1) := by decide +kernel
theorem dX4_remove_19 : decode cX4_remove 19 = .ok (.if_icmp .ne 7, 3) := by decide +kernel
theorem dX4_remove_22 : decode cX4_remove 22 = .ok (.iconst 2, 1) := by decide +kernel
theorem dX4_remove_23 : decode cX4_remove 23 = .ok (.goto 4, 3) := by decide +kernel
theorem dX4_remove_26 : decode cX4_remove 26 = .ok (.iconst 0, 1) := by decide +kernel
theorem dX4_remove_27 : decode cX4_remove 27 = .ok (.putfield 44, 3) := by decide +kernel
theorem dX4_remove_30 : decode cX4_remove 30 = .ok (.aload_n 0, 1) := by decide +kernel
theorem dX4_remove_31 : decode cX4_remove 31 = .ok (.getfield 44, 3) := by decide +kernel
theorem dX4_remove_34 : decode cX4_remove 34 = .ok (.ifCond .le 5, 3) := by decide +kernel
theorem dX4_remove_37 : decode cX4_remove 37 = .ok (.iconst (-1), 1) := by decide +kernel
theorem dX4_remove_38 : decode cX4_remove 38 = .ok (.ireturn, 1) := by decide +kernel
theorem dX4_remove_39 : decode cX4_remove 39 = .ok (.aload_n 0, 1) := by decide +kernel
theorem dX4_remove_40 : decode cX4_remove 40 = .ok (.getfield 7, 3) := by decide +kernel
theorem dX4_remove_43 : decode cX4_remove 43 = .ok (.iload_n 2, 1) := by decide +kernel
theorem dX4_remove_44 : decode cX4_remove 44 = .ok (.iaload, 1) := by decide +kernel
theorem dX4_remove_45 : decode cX4_remove 45 = .ok (.iconst 1, 1) := by decide +kernel
theorem dX4_remove_46 : decode cX4_remove 46 = .ok (.if_icmp .ne 12, 3) := by decide +kernel
theorem dX4_remove_49 : decode cX4_remove 49 = .ok (.aload_n 0, 1) := by decide +kernel
theorem dX4_remove_50 : decode cX4_remove 50 = .ok (.getfield 16, 3) := by decide +kernel
theorem dX4_remove_53 : decode cX4_remove 53 = .ok (.iload_n 2, 1) := by decide +kernel
theorem dX4_remove_54 : decode cX4_remove 54 = .ok (.iaload, 1) := by decide +kernel
theorem dX4_remove_55 : decode cX4_remove 55 = .ok (.goto 4, 3) := by decide +kernel
theorem dX4_remove_58 : decode cX4_remove 58 = .ok (.iconst 0, 1) := by decide +kernel
theorem dX4_remove_59 : decode cX4_remove 59 = .ok (.istore_n 3, 1) := by decide +kernel
theorem dX4_remove_60 : decode cX4_remove 60 = .ok (.aload_n 0, 1) := by decide +kernel
theorem dX4_remove_61 : decode cX4_remove 61 = .ok (.iload_n 1, 1) := by decide +kernel
theorem dX4_remove_62 : decode cX4_remove 62 = .ok (.invokevirtual 90, 3) := by decide +kernel
theorem dX4_remove_65 : decode cX4_remove 65 = .ok (.istore 4, 2) := by decide +kernel
theorem dX4_remove_67 : decode cX4_remove 67 = .ok (.sipush 341, 3) := by decide +kernel
theorem dX4_remove_70 : decode cX4_remove 70 = .ok (.aload_n 0, 1) := by decide +kernel
theorem dX4_remove_71 : decode cX4_remove 71 = .ok (.getfield 22, 3) := by decide +kernel
theorem dX4_remove_74 : decode cX4_remove 74 = .ok (.iload 4, 2) := by decide +kernel
theorem dX4_remove_76 : decode cX4_remove 76 = .ok (.iaload, 1) := by decide +kernel
theorem dX4_remove_77 : decode cX4_remove 77 = .ok (.imul, 1) := by decide +kernel
theorem dX4_remove_78 : decode cX4_remove 78 = .ok (.iload_n 1, 1) := by decide +kernel
theorem dX4_remove_79 : decode cX4_remove 79 = .ok (.aload_n 0, 1) := by decide +kernel
theorem dX4_remove_80 : decode cX4_remove 80 = .ok (.getfield 19, 3) := by decide +kernel
theorem dX4_remove_83 : decode cX4_remove 83 = .ok (.iload 4, 2) := by decide +kernel
theorem dX4_remove_85 : decode cX4_remove 85 = .ok (.iaload, 1) := by decide +kernel
theorem dX4_remove_86 : decode cX4_remove 86 = .ok (.invokestatic 96, 3) := by decide +kernel
theorem dX4_remove_89 : decode cX4_remove 89 = .ok (.invokestatic 99, 3) := by decide +kernel
theorem dX4_remove_92 : decode cX4_remove 92 = .ok (.iadd, 1) := by decide +kernel
theorem dX4_remove_93 : decode cX4_remove 93 = .ok (.istore 5, 2) := by decide +kernel
theorem dX4_remove_95 : decode cX4_remove 95 = .ok (.aload_n 0, 1) := by decide +kernel
theorem dX4_remove_96 : decode cX4_remove 96 = .ok (.getfield 25, 3) := by decide +kernel
theorem dX4_remove_99 : decode cX4_remove 99 = .ok (.iload 4, 2) := by decide +kernel
theorem dX4_remove_101 : decode cX4_remove 101 = .ok (.iaload, 1) := by decide +kernel
theorem dX4_remove_102 : decode cX4_remove 102 = .ok (.iconst (-1), 1) := by decide +kernel
theorem dX4_remove_103 : decode cX4_remove 103 = .ok (.if_icmp .eq 29, 3) := by decide +kernel
theorem dX4_remove_106 : decode cX4_remove 106 = .ok (.aload_n 0, 1) := by decide +kernel
theorem dX4_remove_107 : decode cX4_remove 107 = .ok (.getfield 7, 3) := by decide +kernel
theorem dX4_remove_110 : decode cX4_remove 110 = .ok (.iload 5, 2) := by decide +kernel
theorem dX4_remove_112 : decode cX4_remove 112 = .ok (.iaload, 1) := by decide +kernel
theorem dX4_remove_113 : decode cX4_remove 113 = .ok (.iconst 1, 1) := by decide +kernel
theorem dX4_remove_114 : decode cX4_remove 114 = .ok (.if_icmp .eq 14, 3) := by decide +kernel
theorem dX4_remove_117 : decode cX4_remove 117 = .ok (.aload_n 0, 1) := by decide +kernel
theorem dX4_remove_118 : decode cX4_remove 118 = .ok (.getfield 7, 3) := by decide +kernel
theorem dX4_remove_121 : decode cX4_remove 121 = .ok (.iload 5, 2) := by decide +kernel
theorem dX4_remove_123 : decode cX4_remove 123 = .ok (.iaload, 1) := by decide +kernel
theorem dX4_remove_124 : decode cX4_remove 124 = .ok (.iconst 2, 1) := by decide +kernel
theorem dX4_remove_125 : decode cX4_remove 125 = .ok (.if_icmp .ne 7, 3) := by decide +kernel
theorem dX4_remove_128 : decode cX4_remove 128 = .ok (.iconst 1, 1) := by decide +kernel
theorem dX4_remove_129 : decode cX4_remove 129 = .ok (.goto 4, 3) := by decide +kernel
theorem dX4_remove_132 : decode cX4_remove 132 = .ok (.iconst 0, 1) := by decide +kernel
theorem dX4_remove_133 : decode cX4_remove 133 = .ok (.istore 6, 2) := by decide +kernel
theorem dX4_remove_135 : decode cX4_remove 135 = .ok (.aload_n 0, 1) := by decide +kernel
theorem dX4_remove_136 : decode cX4_remove 136 = .ok (.getfield 7, 3) := by decide +kernel
theorem dX4_remove_139 : decode cX4_remove 139 = .ok (.aload_n 0, 1) := by decide +kernel
theorem dX4_remove_140 : decode cX4_remove 140 = .ok (.iload_n 1, 1) := by decide +kernel
theorem dX4_remove_141 : decode cX4_remove 141 = .ok (.invokevirtual 104, 3) := by decide +kernel
theorem dX4_remove_144 : decode cX4_remove 144 = .ok (.iload 6, 2) := by decide +kernel
theorem dX4_remove_146 : decode cX4_remove 146 = .ok (.ifCond .eq 7, 3) := by decide +kernel
theorem dX4_remove_149 : decode cX4_remove 149 = .ok (.iconst 3, 1) := by decide +kernel
theorem dX4_remove_150 : decode cX4_remove 150 = .ok (.goto 4, 3) := by decide +kernel
theorem dX4_remove_153 : decode cX4_remove 153 = .ok (.iconst 0, 1) := by decide +kernel
theorem dX4_remove_154 : decode cX4_remove 154 = .ok (.iastore, 1) := by decide +kernel
theorem dX4_remove_155 : decode cX4_remove 155 = .ok (.iload_n 3, 1) := by decide +kernel
theorem dX4_remove_156 : decode cX4_remove 156 = .ok (.ireturn, 1) := by decide +kernel
theorem dX4_shows_0 : decode cX4_shows 0 = .ok (.aload_n 0, 1) := by decide +kernel
theorem dX4_shows_1 : decode cX4_shows 1 = .ok (.iload_n 1, 1) := by decide +kernel
theorem dX4_shows_2 : decode cX4_shows 2 = .ok (.invokevirtual 128, 3) := by decide +kernel
theorem dX4_shows_5 : decode cX4_shows 5 = .ok (.ifCond .ne 6, 3) := by decide +kernel
theorem dX4_shows_8 : decode cX4_shows 8 = .ok (.bipush 32, 2) := by decide +kernel
theorem dX4_shows_10 : decode cX4_shows 10 = .ok (.ireturn, 1) := by decide +kernel
theorem dX4_shows_11 : decode cX4_shows 11 = .ok (.aload_n 0, 1) := by decide +kernel
theorem dX4_shows_12 : decode cX4_shows 12 = .ok (.iload_n 1, 1) := by decide +kernel
theorem dX4_shows_13 : decode cX4_shows 13 = .ok (.invokevirtual 107, 3) := by decide +kernel
theorem dX4_shows_16 : decode cX4_shows 16 = .ok (.istore_n 2, 1) := by decide +kernel
theorem dX4_shows_17 : decode cX4_shows 17 = .ok (.iload_n 2, 1) := by decide +kernel
theorem dX4_shows_18 : decode cX4_shows 18 = .ok (.iconst (-1), 1) := by decide +kernel
theorem dX4_shows_19 : decode cX4_shows 19 = .ok (.if_icmp .ne 8, 3) := by decide +kernel
theorem dX4_shows_22 : decode cX4_shows 22 = .ok (.bipush 45, 2) := by decide +kernel
theorem dX4_shows_24 : decode cX4_shows 24 = .ok (.goto 20, 3) := by decide +kernel
theorem dX4_shows_27 : decode cX4_shows 27 = .ok (.aload_n 0, 1) := by decide +kernel
theorem dX4_shows_28 : decode cX4_shows 28 = .ok (.getfield 7, 3) := by decide +kernel
theorem dX4_shows_31 : decode cX4_shows 31 = .ok (.iload_n 2, 1) := by decide +kernel
theorem dX4_shows_32 : decode cX4_shows 32 = .ok (.iaload, 1) := by decide +kernel
theorem dX4_shows_33 : decode cX4_shows 33 = .ok (.iconst 1, 1) := by decide +kernel
theorem dX4_shows_34 : decode cX4_shows 34 = .ok (.if_icmp .ne 8, 3) := by decide +kernel
theorem dX4_shows_37 : decode cX4_shows 37 = .ok (.bipush 102, 2) := by decide +kernel
theorem dX4_shows_39 : decode cX4_shows 39 = .ok (.goto 5, 3) := by decide +kernel
theorem dX4_shows_42 : decode cX4_shows 42 = .ok (.bipush 108, 2) := by decide +kernel
theorem dX4_shows_44 : decode cX4_shows 44 = .ok (.ireturn, 1) := by decide +kernel
theorem dX4_asksShown_0 : decode cX4_asksShown 0 = .ok (.aload_n 0, 1) := by decide +kernel
theorem dX4_asksShown_1 : decode cX4_asksShown 1 = .ok (.iload_n 1, 1) := by decide +kernel
theorem dX4_asksShown_2 : decode cX4_asksShown 2 = .ok (.invokevirtual 128, 3) := by decide +kernel
theorem dX4_asksShown_5 : decode cX4_asksShown 5 = .ok (.ifCond .eq 21, 3) := by decide +kernel
theorem dX4_asksShown_8 : decode cX4_asksShown 8 = .ok (.aload_n 0, 1) := by decide +kernel
theorem dX4_asksShown_9 : decode cX4_asksShown 9 = .ok (.aload_n 0, 1) := by decide +kernel
theorem dX4_asksShown_10 : decode cX4_asksShown 10 = .ok (.iload_n 1, 1) := by decide +kernel
theorem dX4_asksShown_11 : decode cX4_asksShown 11 = .ok (.invokevirtual 107, 3) := by decide +kernel
theorem dX4_asksShown_14 : decode cX4_asksShown 14 = .ok (.iconst (-1), 1) := by decide +kernel
theorem dX4_asksShown_15 : decode cX4_asksShown 15 = .ok (.if_icmp .ne 7, 3) := by decide +kernel
theorem dX4_asksShown_18 : decode cX4_asksShown 18 = .ok (.iconst 2, 1) := by decide +kernel
theorem dX4_asksShown_19 : decode cX4_asksShown 19 = .ok (.goto 4, 3) := by decide +kernel
theorem dX4_asksShown_22 : decode cX4_asksShown 22 = .ok (.iconst 0, 1) := by decide +kernel
theorem dX4_asksShown_23 : decode cX4_asksShown 23 = .ok (.putfield 44, 3) := by decide +kernel
theorem dX4_asksShown_26 : decode cX4_asksShown 26 = .ok (.aload_n 0, 1) := by decide +kernel
theorem dX4_asksShown_27 : decode cX4_asksShown 27 = .ok (.getfield 44, 3) := by decide +kernel
theorem dX4_asksShown_30 : decode cX4_asksShown 30 = .ok (.ifCond .ne 7, 3) := by decide +kernel
theorem dX4_asksShown_33 : decode cX4_asksShown 33 = .ok (.iconst 1, 1) := by decide +kernel
theorem dX4_asksShown_34 : decode cX4_asksShown 34 = .ok (.goto 4, 3) := by decide +kernel
theorem dX4_asksShown_37 : decode cX4_asksShown 37 = .ok (.iconst 0, 1) := by decide +kernel
theorem dX4_asksShown_38 : decode cX4_asksShown 38 = .ok (.ireturn, 1) := by decide +kernel
theorem dX4_layerOf_0 : decode cX4_layerOf 0 = .ok (.aload_n 0, 1) := by decide +kernel
theorem dX4_layerOf_1 : decode cX4_layerOf 1 = .ok (.iload_n 1, 1) := by decide +kernel
theorem dX4_layerOf_2 : decode cX4_layerOf 2 = .ok (.invokevirtual 131, 3) := by decide +kernel
theorem dX4_layerOf_5 : decode cX4_layerOf 5 = .ok (.ifCond .eq 15, 3) := by decide +kernel
theorem dX4_layerOf_8 : decode cX4_layerOf 8 = .ok (.aload_n 0, 1) := by decide +kernel
theorem dX4_layerOf_9 : decode cX4_layerOf 9 = .ok (.iload_n 1, 1) := by decide +kernel
theorem dX4_layerOf_10 : decode cX4_layerOf 10 = .ok (.invokevirtual 107, 3) := by decide +kernel
theorem dX4_layerOf_13 : decode cX4_layerOf 13 = .ok (.sipush 341, 3) := by decide +kernel
theorem dX4_layerOf_16 : decode cX4_layerOf 16 = .ok (.idiv, 1) := by decide +kernel
theorem dX4_layerOf_17 : decode cX4_layerOf 17 = .ok (.goto 4, 3) := by decide +kernel
theorem dX4_layerOf_20 : decode cX4_layerOf 20 = .ok (.iconst (-1), 1) := by decide +kernel
theorem dX4_layerOf_21 : decode cX4_layerOf 21 = .ok (.ireturn, 1) := by decide +kernel
theorem dX4_end_0 : decode cX4_end 0 = .ok (.aload_n 0, 1) := by decide +kernel
theorem dX4_end_1 : decode cX4_end 1 = .ok (.iload_n 1, 1) := by decide +kernel
theorem dX4_end_2 : decode cX4_end 2 = .ok (.invokevirtual 128, 3) := by decide +kernel
theorem dX4_end_5 : decode cX4_end 5 = .ok (.ifCond .ne 5, 3) := by decide +kernel
theorem dX4_end_8 : decode cX4_end 8 = .ok (.iconst (-1), 1) := by decide +kernel
theorem dX4_end_9 : decode cX4_end 9 = .ok (.ireturn, 1) := by decide +kernel
theorem dX4_end_10 : decode cX4_end 10 = .ok (.iload_n 1, 1) := by decide +kernel
theorem dX4_end_11 : decode cX4_end 11 = .ok (.istore_n 2, 1) := by decide +kernel
theorem dX4_end_12 : decode cX4_end 12 = .ok (.iconst 0, 1) := by decide +kernel
theorem dX4_end_13 : decode cX4_end 13 = .ok (.istore_n 3, 1) := by decide +kernel
theorem dX4_end_14 : decode cX4_end 14 = .ok (.aload_n 0, 1) := by decide +kernel
theorem dX4_end_15 : decode cX4_end 15 = .ok (.iload_n 2, 1) := by decide +kernel
theorem dX4_end_16 : decode cX4_end 16 = .ok (.invokevirtual 107, 3) := by decide +kernel
theorem dX4_end_19 : decode cX4_end 19 = .ok (.iconst (-1), 1) := by decide +kernel
theorem dX4_end_20 : decode cX4_end 20 = .ok (.if_icmp .eq 104, 3) := by decide +kernel
theorem dX4_end_23 : decode cX4_end 23 = .ok (.aload_n 0, 1) := by decide +kernel
theorem dX4_end_24 : decode cX4_end 24 = .ok (.getfield 7, 3) := by decide +kernel
theorem dX4_end_27 : decode cX4_end 27 = .ok (.aload_n 0, 1) := by decide +kernel
theorem dX4_end_28 : decode cX4_end 28 = .ok (.iload_n 2, 1) := by decide +kernel
theorem dX4_end_29 : decode cX4_end 29 = .ok (.invokevirtual 107, 3) := by decide +kernel
theorem dX4_end_32 : decode cX4_end 32 = .ok (.iaload, 1) := by decide +kernel
theorem dX4_end_33 : decode cX4_end 33 = .ok (.iconst 2, 1) := by decide +kernel
theorem dX4_end_34 : decode cX4_end 34 = .ok (.if_icmp .ne 90, 3) := by decide +kernel
theorem dX4_end_37 : decode cX4_end 37 = .ok (.aload_n 0, 1) := by decide +kernel
theorem dX4_end_38 : decode cX4_end 38 = .ok (.getfield 16, 3) := by decide +kernel
theorem dX4_end_41 : decode cX4_end 41 = .ok (.aload_n 0, 1) := by decide +kernel
theorem dX4_end_42 : decode cX4_end 42 = .ok (.iload_n 2, 1) := by decide +kernel
theorem dX4_end_43 : decode cX4_end 43 = .ok (.invokevirtual 107, 3) := by decide +kernel
theorem dX4_end_46 : decode cX4_end 46 = .ok (.iaload, 1) := by decide +kernel
theorem dX4_end_47 : decode cX4_end 47 = .ok (.istore 4, 2) := by decide +kernel
theorem dX4_end_49 : decode cX4_end 49 = .ok (.aload_n 0, 1) := by decide +kernel
theorem dX4_end_50 : decode cX4_end 50 = .ok (.iload 4, 2) := by decide +kernel
theorem dX4_end_52 : decode cX4_end 52 = .ok (.invokevirtual 90, 3) := by decide +kernel
theorem dX4_end_55 : decode cX4_end 55 = .ok (.aload_n 0, 1) := by decide +kernel
theorem dX4_end_56 : decode cX4_end 56 = .ok (.iload_n 2, 1) := by decide +kernel
theorem dX4_end_57 : decode cX4_end 57 = .ok (.invokevirtual 90, 3) := by decide +kernel
theorem dX4_end_60 : decode cX4_end 60 = .ok (.if_icmp .eq 16, 3) := by decide +kernel
theorem dX4_end_63 : decode cX4_end 63 = .ok (.aload_n 0, 1) := by decide +kernel
theorem dX4_end_64 : decode cX4_end 64 = .ok (.getfield 32, 3) := by decide +kernel
theorem dX4_end_67 : decode cX4_end 67 = .ok (.aload_n 0, 1) := by decide +kernel
theorem dX4_end_68 : decode cX4_end 68 = .ok (.iload_n 2, 1) := by decide +kernel
theorem dX4_end_69 : decode cX4_end 69 = .ok (.invokevirtual 90, 3) := by decide +kernel
theorem dX4_end_72 : decode cX4_end 72 = .ok (.baload, 1) := by decide +kernel
theorem dX4_end_73 : decode cX4_end 73 = .ok (.ifCond .eq 7, 3) := by decide +kernel
theorem dX4_end_76 : decode cX4_end 76 = .ok (.iconst 1, 1) := by decide +kernel
theorem dX4_end_77 : decode cX4_end 77 = .ok (.goto 4, 3) := by decide +kernel
theorem dX4_end_80 : decode cX4_end 80 = .ok (.iconst 0, 1) := by decide +kernel
theorem dX4_end_81 : decode cX4_end 81 = .ok (.istore 5, 2) := by decide +kernel
theorem dX4_end_83 : decode cX4_end 83 = .ok (.aload_n 0, 1) := by decide +kernel
theorem dX4_end_84 : decode cX4_end 84 = .ok (.iload 5, 2) := by decide +kernel
theorem dX4_end_86 : decode cX4_end 86 = .ok (.ifCond .ne 7, 3) := by decide +kernel
theorem dX4_end_89 : decode cX4_end 89 = .ok (.iconst 2, 1) := by decide +kernel
theorem dX4_end_90 : decode cX4_end 90 = .ok (.goto 13, 3) := by decide +kernel
theorem dX4_end_93 : decode cX4_end 93 = .ok (.iload_n 3, 1) := by decide +kernel
theorem dX4_end_94 : decode cX4_end 94 = .ok (.iconst 4, 1) := by decide +kernel
theorem dX4_end_95 : decode cX4_end 95 = .ok (.if_icmp .ne 7, 3) := by decide +kernel
theorem dX4_end_98 : decode cX4_end 98 = .ok (.iconst 3, 1) := by decide +kernel
theorem dX4_end_99 : decode cX4_end 99 = .ok (.goto 4, 3) := by decide +kernel
theorem dX4_end_102 : decode cX4_end 102 = .ok (.iconst 0, 1) := by decide +kernel
theorem dX4_end_103 : decode cX4_end 103 = .ok (.putfield 44, 3) := by decide +kernel
theorem dX4_end_106 : decode cX4_end 106 = .ok (.aload_n 0, 1) := by decide +kernel
theorem dX4_end_107 : decode cX4_end 107 = .ok (.getfield 44, 3) := by decide +kernel
theorem dX4_end_110 : decode cX4_end 110 = .ok (.ifCond .le 5, 3) := by decide +kernel
theorem dX4_end_113 : decode cX4_end 113 = .ok (.iconst (-1), 1) := by decide +kernel
theorem dX4_end_114 : decode cX4_end 114 = .ok (.ireturn, 1) := by decide +kernel
theorem dX4_end_115 : decode cX4_end 115 = .ok (.iload 4, 2) := by decide +kernel
theorem dX4_end_117 : decode cX4_end 117 = .ok (.istore_n 2, 1) := by decide +kernel
theorem dX4_end_118 : decode cX4_end 118 = .ok (.iinc 3 1, 3) := by decide +kernel
theorem dX4_end_121 : decode cX4_end 121 = .ok (.goto (-107), 3) := by decide +kernel
theorem dX4_end_124 : decode cX4_end 124 = .ok (.iload_n 2, 1) := by decide +kernel
theorem dX4_end_125 : decode cX4_end 125 = .ok (.ireturn, 1) := by decide +kernel
theorem dX4_size_0 : decode cX4_size 0 = .ok (.aload_n 0, 1) := by decide +kernel
theorem dX4_size_1 : decode cX4_size 1 = .ok (.iload_n 1, 1) := by decide +kernel
theorem dX4_size_2 : decode cX4_size 2 = .ok (.invokevirtual 134, 3) := by decide +kernel
theorem dX4_size_5 : decode cX4_size 5 = .ok (.istore_n 2, 1) := by decide +kernel
theorem dX4_size_6 : decode cX4_size 6 = .ok (.aload_n 0, 1) := by decide +kernel
theorem dX4_size_7 : decode cX4_size 7 = .ok (.getfield 44, 3) := by decide +kernel
theorem dX4_size_10 : decode cX4_size 10 = .ok (.ifCond .le 5, 3) := by decide +kernel
theorem dX4_size_13 : decode cX4_size 13 = .ok (.iconst (-1), 1) := by decide +kernel
theorem dX4_size_14 : decode cX4_size 14 = .ok (.ireturn, 1) := by decide +kernel
theorem dX4_size_15 : decode cX4_size 15 = .ok (.aload_n 0, 1) := by decide +kernel
theorem dX4_size_16 : decode cX4_size 16 = .ok (.iload_n 2, 1) := by decide +kernel
theorem dX4_size_17 : decode cX4_size 17 = .ok (.invokevirtual 107, 3) := by decide +kernel
theorem dX4_size_20 : decode cX4_size 20 = .ok (.istore_n 3, 1) := by decide +kernel
theorem dX4_size_21 : decode cX4_size 21 = .ok (.aload_n 0, 1) := by decide +kernel
theorem dX4_size_22 : decode cX4_size 22 = .ok (.iload_n 3, 1) := by decide +kernel
theorem dX4_size_23 : decode cX4_size 23 = .ok (.iconst (-1), 1) := by decide +kernel
theorem dX4_size_24 : decode cX4_size 24 = .ok (.if_icmp .ne 7, 3) := by decide +kernel
theorem dX4_size_27 : decode cX4_size 27 = .ok (.iconst 4, 1) := by decide +kernel
theorem dX4_size_28 : decode cX4_size 28 = .ok (.goto 4, 3) := by decide +kernel
theorem dX4_size_31 : decode cX4_size 31 = .ok (.iconst 0, 1) := by decide +kernel
theorem dX4_size_32 : decode cX4_size 32 = .ok (.putfield 44, 3) := by decide +kernel
theorem dX4_size_35 : decode cX4_size 35 = .ok (.aload_n 0, 1) := by decide +kernel
theorem dX4_size_36 : decode cX4_size 36 = .ok (.getfield 44, 3) := by decide +kernel
theorem dX4_size_39 : decode cX4_size 39 = .ok (.ifCond .ne 12, 3) := by decide +kernel
theorem dX4_size_42 : decode cX4_size 42 = .ok (.aload_n 0, 1) := by decide +kernel
theorem dX4_size_43 : decode cX4_size 43 = .ok (.getfield 16, 3) := by decide +kernel
theorem dX4_size_46 : decode cX4_size 46 = .ok (.iload_n 3, 1) := by decide +kernel
theorem dX4_size_47 : decode cX4_size 47 = .ok (.iaload, 1) := by decide +kernel
theorem dX4_size_48 : decode cX4_size 48 = .ok (.goto 4, 3) := by decide +kernel
theorem dX4_size_51 : decode cX4_size 51 = .ok (.iconst (-1), 1) := by decide +kernel
theorem dX4_size_52 : decode cX4_size 52 = .ok (.ireturn, 1) := by decide +kernel
theorem dX4_sizeByWalking_0 : decode cX4_sizeByWalking 0 = .ok (.aload_n 0, 1) := by decide +kernel
theorem dX4_sizeByWalking_1 : decode cX4_sizeByWalking 1 = .ok (.iload_n 1, 1) := by decide +kernel
theorem dX4_sizeByWalking_2 : decode cX4_sizeByWalking 2 = .ok (.invokevirtual 128, 3) := by decide +kernel
theorem dX4_sizeByWalking_5 : decode cX4_sizeByWalking 5 = .ok (.ifCond .ne 5, 3) := by decide +kernel
theorem dX4_sizeByWalking_8 : decode cX4_sizeByWalking 8 = .ok (.iconst (-1), 1) := by decide +kernel
theorem dX4_sizeByWalking_9 : decode cX4_sizeByWalking 9 = .ok (.ireturn, 1) := by decide +kernel
theorem dX4_sizeByWalking_10 : decode cX4_sizeByWalking 10 = .ok (.aload_n 0, 1) := by decide +kernel
theorem dX4_sizeByWalking_11 : decode cX4_sizeByWalking 11 = .ok (.iload_n 1, 1) := by decide +kernel
theorem dX4_sizeByWalking_12 : decode cX4_sizeByWalking 12 = .ok (.invokevirtual 107, 3) := by decide +kernel
theorem dX4_sizeByWalking_15 : decode cX4_sizeByWalking 15 = .ok (.istore_n 2, 1) := by decide +kernel
theorem dX4_sizeByWalking_16 : decode cX4_sizeByWalking 16 = .ok (.iload_n 2, 1) := by decide +kernel
theorem dX4_sizeByWalking_17 : decode cX4_sizeByWalking 17 = .ok (.iconst (-1), 1) := by decide +kernel
theorem dX4_sizeByWalking_18 : decode cX4_sizeByWalking 18 = .ok (.if_icmp .eq 22, 3) := by decide +kernel
theorem dX4_sizeByWalking_21 : decode cX4_sizeByWalking 21 = .ok (.aload_n 0, 1) := by decide +kernel
theorem dX4_sizeByWalking_22 : decode cX4_sizeByWalking 22 = .ok (.getfield 7, 3) := by decide +kernel
theorem dX4_sizeByWalking_25 : decode cX4_sizeByWalking 25 = .ok (.iload_n 2, 1) := by decide +kernel
theorem dX4_sizeByWalking_26 : decode cX4_sizeByWalking 26 = .ok (.iaload, 1) := by decide +kernel
theorem dX4_sizeByWalking_27 : decode cX4_sizeByWalking 27 = .ok (.iconst 1, 1) := by decide +kernel
theorem dX4_sizeByWalking_28 : decode cX4_sizeByWalking 28 = .ok (.if_icmp .ne 12, 3) := by decide +kernel
theorem dX4_sizeByWalking_31 : decode cX4_sizeByWalking 31 = .ok (.aload_n 0, 1) := by decide +kernel
theorem dX4_sizeByWalking_32 : decode cX4_sizeByWalking 32 = .ok (.getfield 16, 3) := by decide +kernel
theorem dX4_sizeByWalking_35 : decode cX4_sizeByWalking 35 = .ok (.iload_n 2, 1) := by decide +kernel
theorem dX4_sizeByWalking_36 : decode cX4_sizeByWalking 36 = .ok (.iaload, 1) := by decide +kernel
theorem dX4_sizeByWalking_37 : decode cX4_sizeByWalking 37 = .ok (.goto 4, 3) := by decide +kernel
theorem dX4_sizeByWalking_40 : decode cX4_sizeByWalking 40 = .ok (.iconst (-1), 1) := by decide +kernel
theorem dX4_sizeByWalking_41 : decode cX4_sizeByWalking 41 = .ok (.ireturn, 1) := by decide +kernel
theorem dX4_ownerOf_0 : decode cX4_ownerOf 0 = .ok (.aload_n 0, 1) := by decide +kernel
theorem dX4_ownerOf_1 : decode cX4_ownerOf 1 = .ok (.iload_n 1, 1) := by decide +kernel
theorem dX4_ownerOf_2 : decode cX4_ownerOf 2 = .ok (.invokevirtual 131, 3) := by decide +kernel
theorem dX4_ownerOf_5 : decode cX4_ownerOf 5 = .ok (.ifCond .eq 16, 3) := by decide +kernel
theorem dX4_ownerOf_8 : decode cX4_ownerOf 8 = .ok (.aload_n 0, 1) := by decide +kernel
theorem dX4_ownerOf_9 : decode cX4_ownerOf 9 = .ok (.getfield 13, 3) := by decide +kernel
theorem dX4_ownerOf_12 : decode cX4_ownerOf 12 = .ok (.aload_n 0, 1) := by decide +kernel
theorem dX4_ownerOf_13 : decode cX4_ownerOf 13 = .ok (.iload_n 1, 1) := by decide +kernel
theorem dX4_ownerOf_14 : decode cX4_ownerOf 14 = .ok (.invokevirtual 107, 3) := by decide +kernel
theorem dX4_ownerOf_17 : decode cX4_ownerOf 17 = .ok (.iaload, 1) := by decide +kernel
theorem dX4_ownerOf_18 : decode cX4_ownerOf 18 = .ok (.goto 4, 3) := by decide +kernel
theorem dX4_ownerOf_21 : decode cX4_ownerOf 21 = .ok (.iconst (-1), 1) := by decide +kernel
theorem dX4_ownerOf_22 : decode cX4_ownerOf 22 = .ok (.ireturn, 1) := by decide +kernel
theorem dX4_setQuota_0 : decode cX4_setQuota 0 = .ok (.aload_n 0, 1) := by decide +kernel
theorem dX4_setQuota_1 : decode cX4_setQuota 1 = .ok (.iload_n 1, 1) := by decide +kernel
theorem dX4_setQuota_2 : decode cX4_setQuota 2 = .ok (.invokestatic 113, 3) := by decide +kernel
theorem dX4_setQuota_5 : decode cX4_setQuota 5 = .ok (.ifCond .eq 19, 3) := by decide +kernel
theorem dX4_setQuota_8 : decode cX4_setQuota 8 = .ok (.iload_n 2, 1) := by decide +kernel
theorem dX4_setQuota_9 : decode cX4_setQuota 9 = .ok (.i2l, 1) := by decide +kernel
theorem dX4_setQuota_10 : decode cX4_setQuota 10 = .ok (.lconst 0, 1) := by decide +kernel
theorem dX4_setQuota_11 : decode cX4_setQuota 11 = .ok (.ldc2_w 137, 3) := by decide +kernel
theorem dX4_setQuota_14 : decode cX4_setQuota 14 = .ok (.invokestatic 50, 3) := by decide +kernel
theorem dX4_setQuota_17 : decode cX4_setQuota 17 = .ok (.ifCond .eq 7, 3) := by decide +kernel
theorem dX4_setQuota_20 : decode cX4_setQuota 20 = .ok (.iconst 0, 1) := by decide +kernel
theorem dX4_setQuota_21 : decode cX4_setQuota 21 = .ok (.goto 4, 3) := by decide +kernel
theorem dX4_setQuota_24 : decode cX4_setQuota 24 = .ok (.iconst 1, 1) := by decide +kernel
theorem dX4_setQuota_25 : decode cX4_setQuota 25 = .ok (.putfield 44, 3) := by decide +kernel
theorem dX4_setQuota_28 : decode cX4_setQuota 28 = .ok (.aload_n 0, 1) := by decide +kernel
theorem dX4_setQuota_29 : decode cX4_setQuota 29 = .ok (.getfield 44, 3) := by decide +kernel
theorem dX4_setQuota_32 : decode cX4_setQuota 32 = .ok (.ifCond .le 5, 3) := by decide +kernel
theorem dX4_setQuota_35 : decode cX4_setQuota 35 = .ok (.iconst (-1), 1) := by decide +kernel
theorem dX4_setQuota_36 : decode cX4_setQuota 36 = .ok (.ireturn, 1) := by decide +kernel
theorem dX4_setQuota_37 : decode cX4_setQuota 37 = .ok (.aload_n 0, 1) := by decide +kernel
theorem dX4_setQuota_38 : decode cX4_setQuota 38 = .ok (.getfield 35, 3) := by decide +kernel
theorem dX4_setQuota_41 : decode cX4_setQuota 41 = .ok (.iload_n 1, 1) := by decide +kernel
theorem dX4_setQuota_42 : decode cX4_setQuota 42 = .ok (.iaload, 1) := by decide +kernel
theorem dX4_setQuota_43 : decode cX4_setQuota 43 = .ok (.istore_n 3, 1) := by decide +kernel
theorem dX4_setQuota_44 : decode cX4_setQuota 44 = .ok (.aload_n 0, 1) := by decide +kernel
theorem dX4_setQuota_45 : decode cX4_setQuota 45 = .ok (.getfield 35, 3) := by decide +kernel
theorem dX4_setQuota_48 : decode cX4_setQuota 48 = .ok (.iload_n 1, 1) := by decide +kernel
theorem dX4_setQuota_49 : decode cX4_setQuota 49 = .ok (.iload_n 2, 1) := by decide +kernel
theorem dX4_setQuota_50 : decode cX4_setQuota 50 = .ok (.iastore, 1) := by decide +kernel
theorem dX4_setQuota_51 : decode cX4_setQuota 51 = .ok (.iload_n 3, 1) := by decide +kernel
theorem dX4_setQuota_52 : decode cX4_setQuota 52 = .ok (.ireturn, 1) := by decide +kernel
theorem dX4_used__0 : decode cX4_used_ 0 = .ok (.aload_n 0, 1) := by decide +kernel
theorem dX4_used__1 : decode cX4_used_ 1 = .ok (.iload_n 1, 1) := by decide +kernel
theorem dX4_used__2 : decode cX4_used_ 2 = .ok (.invokestatic 113, 3) := by decide +kernel
theorem dX4_used__5 : decode cX4_used_ 5 = .ok (.ifCond .eq 7, 3) := by decide +kernel
theorem dX4_used__8 : decode cX4_used_ 8 = .ok (.iconst 0, 1) := by decide +kernel
theorem dX4_used__9 : decode cX4_used_ 9 = .ok (.goto 4, 3) := by decide +kernel
theorem dX4_used__12 : decode cX4_used_ 12 = .ok (.iconst 1, 1) := by decide +kernel
theorem dX4_used__13 : decode cX4_used_ 13 = .ok (.putfield 44, 3) := by decide +kernel
theorem dX4_used__16 : decode cX4_used_ 16 = .ok (.aload_n 0, 1) := by decide +kernel
theorem dX4_used__17 : decode cX4_used_ 17 = .ok (.getfield 44, 3) := by decide +kernel
theorem dX4_used__20 : decode cX4_used_ 20 = .ok (.ifCond .ne 12, 3) := by decide +kernel
theorem dX4_used__23 : decode cX4_used_ 23 = .ok (.aload_n 0, 1) := by decide +kernel
theorem dX4_used__24 : decode cX4_used_ 24 = .ok (.iload_n 1, 1) := by decide +kernel
theorem dX4_used__25 : decode cX4_used_ 25 = .ok (.iconst (-1), 1) := by decide +kernel
theorem dX4_used__26 : decode cX4_used_ 26 = .ok (.invokevirtual 121, 3) := by decide +kernel
theorem dX4_used__29 : decode cX4_used_ 29 = .ok (.goto 4, 3) := by decide +kernel
theorem dX4_used__32 : decode cX4_used_ 32 = .ok (.iconst (-1), 1) := by decide +kernel
theorem dX4_used__33 : decode cX4_used_ 33 = .ok (.ireturn, 1) := by decide +kernel
theorem dX4_usedByLayers_0 : decode cX4_usedByLayers 0 = .ok (.aload_n 0, 1) := by decide +kernel
theorem dX4_usedByLayers_1 : decode cX4_usedByLayers 1 = .ok (.iload_n 1, 1) := by decide +kernel
theorem dX4_usedByLayers_2 : decode cX4_usedByLayers 2 = .ok (.invokevirtual 139, 3) := by decide +kernel
theorem dX4_usedByLayers_5 : decode cX4_usedByLayers 5 = .ok (.ireturn, 1) := by decide +kernel
theorem dX4_bytesOfAll_0 : decode cX4_bytesOfAll 0 = .ok (.aload_n 0, 1) := by decide +kernel
theorem dX4_bytesOfAll_1 : decode cX4_bytesOfAll 1 = .ok (.iconst 0, 1) := by decide +kernel
theorem dX4_bytesOfAll_2 : decode cX4_bytesOfAll 2 = .ok (.iconst (-1), 1) := by decide +kernel
theorem dX4_bytesOfAll_3 : decode cX4_bytesOfAll 3 = .ok (.invokevirtual 121, 3) := by decide +kernel
theorem dX4_bytesOfAll_6 : decode cX4_bytesOfAll 6 = .ok (.aload_n 0, 1) := by decide +kernel
theorem dX4_bytesOfAll_7 : decode cX4_bytesOfAll 7 = .ok (.iconst 1, 1) := by decide +kernel
theorem dX4_bytesOfAll_8 : decode cX4_bytesOfAll 8 = .ok (.iconst (-1), 1) := by decide +kernel
theorem dX4_bytesOfAll_9 : decode cX4_bytesOfAll 9 = .ok (.invokevirtual 121, 3) := by decide +kernel
theorem dX4_bytesOfAll_12 : decode cX4_bytesOfAll 12 = .ok (.iadd, 1) := by decide +kernel
theorem dX4_bytesOfAll_13 : decode cX4_bytesOfAll 13 = .ok (.aload_n 0, 1) := by decide +kernel
theorem dX4_bytesOfAll_14 : decode cX4_bytesOfAll 14 = .ok (.iconst 2, 1) := by decide +kernel
theorem dX4_bytesOfAll_15 : decode cX4_bytesOfAll 15 = .ok (.iconst (-1), 1) := by decide +kernel
theorem dX4_bytesOfAll_16 : decode cX4_bytesOfAll 16 = .ok (.invokevirtual 121, 3) := by decide +kernel
theorem dX4_bytesOfAll_19 : decode cX4_bytesOfAll 19 = .ok (.iadd, 1) := by decide +kernel
theorem dX4_bytesOfAll_20 : decode cX4_bytesOfAll 20 = .ok (.aload_n 0, 1) := by decide +kernel
theorem dX4_bytesOfAll_21 : decode cX4_bytesOfAll 21 = .ok (.iconst 3, 1) := by decide +kernel
theorem dX4_bytesOfAll_22 : decode cX4_bytesOfAll 22 = .ok (.iconst (-1), 1) := by decide +kernel
theorem dX4_bytesOfAll_23 : decode cX4_bytesOfAll 23 = .ok (.invokevirtual 121, 3) := by decide +kernel
theorem dX4_bytesOfAll_26 : decode cX4_bytesOfAll 26 = .ok (.iadd, 1) := by decide +kernel
theorem dX4_bytesOfAll_27 : decode cX4_bytesOfAll 27 = .ok (.ireturn, 1) := by decide +kernel
theorem dX4_bytesShown_0 : decode cX4_bytesShown 0 = .ok (.iconst 0, 1) := by decide +kernel
theorem dX4_bytesShown_1 : decode cX4_bytesShown 1 = .ok (.istore_n 1, 1) := by decide +kernel
theorem dX4_bytesShown_2 : decode cX4_bytesShown 2 = .ok (.iconst 0, 1) := by decide +kernel
theorem dX4_bytesShown_3 : decode cX4_bytesShown 3 = .ok (.istore_n 2, 1) := by decide +kernel
theorem dX4_bytesShown_4 : decode cX4_bytesShown 4 = .ok (.iload_n 2, 1) := by decide +kernel
theorem dX4_bytesShown_5 : decode cX4_bytesShown 5 = .ok (.sipush 2046, 3) := by decide +kernel
theorem dX4_bytesShown_8 : decode cX4_bytesShown 8 = .ok (.if_icmp .ge 78, 3) := by decide +kernel
theorem dX4_bytesShown_11 : decode cX4_bytesShown 11 = .ok (.iconst 0, 1) := by decide +kernel
theorem dX4_bytesShown_12 : decode cX4_bytesShown 12 = .ok (.istore_n 3, 1) := by decide +kernel
theorem dX4_bytesShown_13 : decode cX4_bytesShown 13 = .ok (.iconst 1, 1) := by decide +kernel
theorem dX4_bytesShown_14 : decode cX4_bytesShown 14 = .ok (.istore 4, 2) := by decide +kernel
theorem dX4_bytesShown_16 : decode cX4_bytesShown 16 = .ok (.iload 4, 2) := by decide +kernel
theorem dX4_bytesShown_18 : decode cX4_bytesShown 18 = .ok (.sipush 341, 3) := by decide +kernel
theorem dX4_bytesShown_21 : decode cX4_bytesShown 21 = .ok (.if_icmp .ge 42, 3) := by decide +kernel
theorem dX4_bytesShown_24 : decode cX4_bytesShown 24 = .ok (.aload_n 0, 1) := by decide +kernel
theorem dX4_bytesShown_25 : decode cX4_bytesShown 25 = .ok (.getfield 7, 3) := by decide +kernel
theorem dX4_bytesShown_28 : decode cX4_bytesShown 28 = .ok (.iload_n 2, 1) := by decide +kernel
theorem dX4_bytesShown_29 : decode cX4_bytesShown 29 = .ok (.iaload, 1) := by decide +kernel
theorem dX4_bytesShown_30 : decode cX4_bytesShown 30 = .ok (.iconst 1, 1) := by decide +kernel
theorem dX4_bytesShown_31 : decode cX4_bytesShown 31 = .ok (.if_icmp .ne 32, 3) := by decide +kernel
theorem dX4_bytesShown_34 : decode cX4_bytesShown 34 = .ok (.iload_n 3, 1) := by decide +kernel
theorem dX4_bytesShown_35 : decode cX4_bytesShown 35 = .ok (.ifCond .ne 28, 3) := by decide +kernel
theorem dX4_bytesShown_38 : decode cX4_bytesShown 38 = .ok (.aload_n 0, 1) := by decide +kernel
theorem dX4_bytesShown_39 : decode cX4_bytesShown 39 = .ok (.iload 4, 2) := by decide +kernel
theorem dX4_bytesShown_41 : decode cX4_bytesShown 41 = .ok (.invokestatic 93, 3) := by decide +kernel
theorem dX4_bytesShown_44 : decode cX4_bytesShown 44 = .ok (.invokevirtual 107, 3) := by decide +kernel
theorem dX4_bytesShown_47 : decode cX4_bytesShown 47 = .ok (.iload_n 2, 1) := by decide +kernel
theorem dX4_bytesShown_48 : decode cX4_bytesShown 48 = .ok (.if_icmp .ne 7, 3) := by decide +kernel
theorem dX4_bytesShown_51 : decode cX4_bytesShown 51 = .ok (.iconst 1, 1) := by decide +kernel
theorem dX4_bytesShown_52 : decode cX4_bytesShown 52 = .ok (.goto 4, 3) := by decide +kernel
theorem dX4_bytesShown_55 : decode cX4_bytesShown 55 = .ok (.iconst 0, 1) := by decide +kernel
theorem dX4_bytesShown_56 : decode cX4_bytesShown 56 = .ok (.istore_n 3, 1) := by decide +kernel
theorem dX4_bytesShown_57 : decode cX4_bytesShown 57 = .ok (.iinc 4 1, 3) := by decide +kernel
theorem dX4_bytesShown_60 : decode cX4_bytesShown 60 = .ok (.goto (-44), 3) := by decide +kernel
theorem dX4_bytesShown_63 : decode cX4_bytesShown 63 = .ok (.iload_n 1, 1) := by decide +kernel
theorem dX4_bytesShown_64 : decode cX4_bytesShown 64 = .ok (.iload_n 3, 1) := by decide +kernel
theorem dX4_bytesShown_65 : decode cX4_bytesShown 65 = .ok (.ifCond .eq 12, 3) := by decide +kernel
theorem dX4_bytesShown_68 : decode cX4_bytesShown 68 = .ok (.aload_n 0, 1) := by decide +kernel
theorem dX4_bytesShown_69 : decode cX4_bytesShown 69 = .ok (.getfield 16, 3) := by decide +kernel
theorem dX4_bytesShown_72 : decode cX4_bytesShown 72 = .ok (.iload_n 2, 1) := by decide +kernel
theorem dX4_bytesShown_73 : decode cX4_bytesShown 73 = .ok (.iaload, 1) := by decide +kernel
theorem dX4_bytesShown_74 : decode cX4_bytesShown 74 = .ok (.goto 4, 3) := by decide +kernel
theorem dX4_bytesShown_77 : decode cX4_bytesShown 77 = .ok (.iconst 0, 1) := by decide +kernel
theorem dX4_bytesShown_78 : decode cX4_bytesShown 78 = .ok (.iadd, 1) := by decide +kernel
theorem dX4_bytesShown_79 : decode cX4_bytesShown 79 = .ok (.istore_n 1, 1) := by decide +kernel
theorem dX4_bytesShown_80 : decode cX4_bytesShown 80 = .ok (.iinc 2 1, 3) := by decide +kernel
theorem dX4_bytesShown_83 : decode cX4_bytesShown 83 = .ok (.goto (-79), 3) := by decide +kernel
theorem dX4_bytesShown_86 : decode cX4_bytesShown 86 = .ok (.iload_n 1, 1) := by decide +kernel
theorem dX4_bytesShown_87 : decode cX4_bytesShown 87 = .ok (.ireturn, 1) := by decide +kernel
theorem dX4_hidden_0 : decode cX4_hidden 0 = .ok (.aload_n 0, 1) := by decide +kernel
theorem dX4_hidden_1 : decode cX4_hidden 1 = .ok (.iconst 0, 1) := by decide +kernel
theorem dX4_hidden_2 : decode cX4_hidden 2 = .ok (.putfield 44, 3) := by decide +kernel
theorem dX4_hidden_5 : decode cX4_hidden 5 = .ok (.aload_n 0, 1) := by decide +kernel
theorem dX4_hidden_6 : decode cX4_hidden 6 = .ok (.invokevirtual 141, 3) := by decide +kernel
theorem dX4_hidden_9 : decode cX4_hidden 9 = .ok (.aload_n 0, 1) := by decide +kernel
theorem dX4_hidden_10 : decode cX4_hidden 10 = .ok (.invokevirtual 145, 3) := by decide +kernel
theorem dX4_hidden_13 : decode cX4_hidden 13 = .ok (.isub, 1) := by decide +kernel
theorem dX4_hidden_14 : decode cX4_hidden 14 = .ok (.ireturn, 1) := by decide +kernel
theorem dX4_copies_0 : decode cX4_copies 0 = .ok (.aload_n 0, 1) := by decide +kernel
theorem dX4_copies_1 : decode cX4_copies 1 = .ok (.iconst 0, 1) := by decide +kernel
theorem dX4_copies_2 : decode cX4_copies 2 = .ok (.putfield 44, 3) := by decide +kernel
theorem dX4_copies_5 : decode cX4_copies 5 = .ok (.aload_n 0, 1) := by decide +kernel
theorem dX4_copies_6 : decode cX4_copies 6 = .ok (.getfield 110, 3) := by decide +kernel
theorem dX4_copies_9 : decode cX4_copies 9 = .ok (.ireturn, 1) := by decide +kernel
theorem dX4_count_0 : decode cX4_count 0 = .ok (.iconst 0, 1) := by decide +kernel
theorem dX4_count_1 : decode cX4_count 1 = .ok (.istore_n 3, 1) := by decide +kernel
theorem dX4_count_2 : decode cX4_count 2 = .ok (.sipush 341, 3) := by decide +kernel
theorem dX4_count_5 : decode cX4_count 5 = .ok (.iload_n 1, 1) := by decide +kernel
theorem dX4_count_6 : decode cX4_count 6 = .ok (.imul, 1) := by decide +kernel
theorem dX4_count_7 : decode cX4_count 7 = .ok (.istore 4, 2) := by decide +kernel
theorem dX4_count_9 : decode cX4_count 9 = .ok (.iload 4, 2) := by decide +kernel
theorem dX4_count_11 : decode cX4_count 11 = .ok (.sipush 341, 3) := by decide +kernel
theorem dX4_count_14 : decode cX4_count 14 = .ok (.iload_n 1, 1) := by decide +kernel
theorem dX4_count_15 : decode cX4_count 15 = .ok (.imul, 1) := by decide +kernel
theorem dX4_count_16 : decode cX4_count 16 = .ok (.sipush 341, 3) := by decide +kernel
theorem dX4_count_19 : decode cX4_count 19 = .ok (.iadd, 1) := by decide +kernel
theorem dX4_count_20 : decode cX4_count 20 = .ok (.if_icmp .ge 28, 3) := by decide +kernel
theorem dX4_count_23 : decode cX4_count 23 = .ok (.iload_n 3, 1) := by decide +kernel
theorem dX4_count_24 : decode cX4_count 24 = .ok (.aload_n 0, 1) := by decide +kernel
theorem dX4_count_25 : decode cX4_count 25 = .ok (.getfield 7, 3) := by decide +kernel
theorem dX4_count_28 : decode cX4_count 28 = .ok (.iload 4, 2) := by decide +kernel
theorem dX4_count_30 : decode cX4_count 30 = .ok (.iaload, 1) := by decide +kernel
theorem dX4_count_31 : decode cX4_count 31 = .ok (.iload_n 2, 1) := by decide +kernel
theorem dX4_count_32 : decode cX4_count 32 = .ok (.if_icmp .ne 7, 3) := by decide +kernel
theorem dX4_count_35 : decode cX4_count 35 = .ok (.iconst 1, 1) := by decide +kernel
theorem dX4_count_36 : decode cX4_count 36 = .ok (.goto 4, 3) := by decide +kernel
theorem dX4_count_39 : decode cX4_count 39 = .ok (.iconst 0, 1) := by decide +kernel
theorem dX4_count_40 : decode cX4_count 40 = .ok (.iadd, 1) := by decide +kernel
theorem dX4_count_41 : decode cX4_count 41 = .ok (.istore_n 3, 1) := by decide +kernel
theorem dX4_count_42 : decode cX4_count 42 = .ok (.iinc 4 1, 3) := by decide +kernel
theorem dX4_count_45 : decode cX4_count 45 = .ok (.goto (-36), 3) := by decide +kernel
theorem dX4_count_48 : decode cX4_count 48 = .ok (.iload_n 3, 1) := by decide +kernel
theorem dX4_count_49 : decode cX4_count 49 = .ok (.ireturn, 1) := by decide +kernel
theorem dX4_whiteouts_0 : decode cX4_whiteouts 0 = .ok (.aload_n 0, 1) := by decide +kernel
theorem dX4_whiteouts_1 : decode cX4_whiteouts 1 = .ok (.aload_n 0, 1) := by decide +kernel
theorem dX4_whiteouts_2 : decode cX4_whiteouts 2 = .ok (.iload_n 1, 1) := by decide +kernel
theorem dX4_whiteouts_3 : decode cX4_whiteouts 3 = .ok (.invokevirtual 74, 3) := by decide +kernel
theorem dX4_whiteouts_6 : decode cX4_whiteouts 6 = .ok (.ifCond .eq 7, 3) := by decide +kernel
theorem dX4_whiteouts_9 : decode cX4_whiteouts 9 = .ok (.iconst 0, 1) := by decide +kernel
theorem dX4_whiteouts_10 : decode cX4_whiteouts 10 = .ok (.goto 4, 3) := by decide +kernel
theorem dX4_whiteouts_13 : decode cX4_whiteouts 13 = .ok (.iconst 1, 1) := by decide +kernel
theorem dX4_whiteouts_14 : decode cX4_whiteouts 14 = .ok (.putfield 44, 3) := by decide +kernel
theorem dX4_whiteouts_17 : decode cX4_whiteouts 17 = .ok (.aload_n 0, 1) := by decide +kernel
theorem dX4_whiteouts_18 : decode cX4_whiteouts 18 = .ok (.getfield 44, 3) := by decide +kernel
theorem dX4_whiteouts_21 : decode cX4_whiteouts 21 = .ok (.ifCond .ne 12, 3) := by decide +kernel
theorem dX4_whiteouts_24 : decode cX4_whiteouts 24 = .ok (.aload_n 0, 1) := by decide +kernel
theorem dX4_whiteouts_25 : decode cX4_whiteouts 25 = .ok (.iload_n 1, 1) := by decide +kernel
theorem dX4_whiteouts_26 : decode cX4_whiteouts 26 = .ok (.iconst 3, 1) := by decide +kernel
theorem dX4_whiteouts_27 : decode cX4_whiteouts 27 = .ok (.invokevirtual 148, 3) := by decide +kernel
theorem dX4_whiteouts_30 : decode cX4_whiteouts 30 = .ok (.goto 4, 3) := by decide +kernel
theorem dX4_whiteouts_33 : decode cX4_whiteouts 33 = .ok (.iconst (-1), 1) := by decide +kernel
theorem dX4_whiteouts_34 : decode cX4_whiteouts 34 = .ok (.ireturn, 1) := by decide +kernel
theorem dX4_nowAt_0 : decode cX4_nowAt 0 = .ok (.iload_n 1, 1) := by decide +kernel
theorem dX4_nowAt_1 : decode cX4_nowAt 1 = .ok (.ifCond .ne 26, 3) := by decide +kernel
theorem dX4_nowAt_4 : decode cX4_nowAt 4 = .ok (.aload_n 0, 1) := by decide +kernel
theorem dX4_nowAt_5 : decode cX4_nowAt 5 = .ok (.getfield 7, 3) := by decide +kernel
theorem dX4_nowAt_8 : decode cX4_nowAt 8 = .ok (.iload_n 2, 1) := by decide +kernel
theorem dX4_nowAt_9 : decode cX4_nowAt 9 = .ok (.iaload, 1) := by decide +kernel
theorem dX4_nowAt_10 : decode cX4_nowAt 10 = .ok (.iconst 1, 1) := by decide +kernel
theorem dX4_nowAt_11 : decode cX4_nowAt 11 = .ok (.if_icmp .ne 14, 3) := by decide +kernel
theorem dX4_nowAt_14 : decode cX4_nowAt 14 = .ok (.aload_n 0, 1) := by decide +kernel
theorem dX4_nowAt_15 : decode cX4_nowAt 15 = .ok (.getfield 16, 3) := by decide +kernel
theorem dX4_nowAt_18 : decode cX4_nowAt 18 = .ok (.iload_n 2, 1) := by decide +kernel
theorem dX4_nowAt_19 : decode cX4_nowAt 19 = .ok (.iaload, 1) := by decide +kernel
theorem dX4_nowAt_20 : decode cX4_nowAt 20 = .ok (.iconst 1, 1) := by decide +kernel
theorem dX4_nowAt_21 : decode cX4_nowAt 21 = .ok (.iadd, 1) := by decide +kernel
theorem dX4_nowAt_22 : decode cX4_nowAt 22 = .ok (.goto 4, 3) := by decide +kernel
theorem dX4_nowAt_25 : decode cX4_nowAt 25 = .ok (.iconst 0, 1) := by decide +kernel
theorem dX4_nowAt_26 : decode cX4_nowAt 26 = .ok (.ireturn, 1) := by decide +kernel
theorem dX4_nowAt_27 : decode cX4_nowAt 27 = .ok (.iload_n 2, 1) := by decide +kernel
theorem dX4_nowAt_28 : decode cX4_nowAt 28 = .ok (.iconst 1, 1) := by decide +kernel
theorem dX4_nowAt_29 : decode cX4_nowAt 29 = .ok (.if_icmp .lt 21, 3) := by decide +kernel
theorem dX4_nowAt_32 : decode cX4_nowAt 32 = .ok (.iload_n 2, 1) := by decide +kernel
theorem dX4_nowAt_33 : decode cX4_nowAt 33 = .ok (.sipush 341, 3) := by decide +kernel
theorem dX4_nowAt_36 : decode cX4_nowAt 36 = .ok (.if_icmp .ge 14, 3) := by decide +kernel
theorem dX4_nowAt_39 : decode cX4_nowAt 39 = .ok (.aload_n 0, 1) := by decide +kernel
theorem dX4_nowAt_40 : decode cX4_nowAt 40 = .ok (.iload_n 2, 1) := by decide +kernel
theorem dX4_nowAt_41 : decode cX4_nowAt 41 = .ok (.invokestatic 93, 3) := by decide +kernel
theorem dX4_nowAt_44 : decode cX4_nowAt 44 = .ok (.invokevirtual 107, 3) := by decide +kernel
theorem dX4_nowAt_47 : decode cX4_nowAt 47 = .ok (.goto 4, 3) := by decide +kernel
theorem dX4_nowAt_50 : decode cX4_nowAt 50 = .ok (.iconst (-1), 1) := by decide +kernel
theorem dX4_nowAt_51 : decode cX4_nowAt 51 = .ok (.istore_n 3, 1) := by decide +kernel
theorem dX4_nowAt_52 : decode cX4_nowAt 52 = .ok (.iload_n 3, 1) := by decide +kernel
theorem dX4_nowAt_53 : decode cX4_nowAt 53 = .ok (.iconst (-1), 1) := by decide +kernel
theorem dX4_nowAt_54 : decode cX4_nowAt 54 = .ok (.if_icmp .eq 24, 3) := by decide +kernel
theorem dX4_nowAt_57 : decode cX4_nowAt 57 = .ok (.aload_n 0, 1) := by decide +kernel
theorem dX4_nowAt_58 : decode cX4_nowAt 58 = .ok (.getfield 7, 3) := by decide +kernel
theorem dX4_nowAt_61 : decode cX4_nowAt 61 = .ok (.iload_n 3, 1) := by decide +kernel
theorem dX4_nowAt_62 : decode cX4_nowAt 62 = .ok (.iaload, 1) := by decide +kernel
theorem dX4_nowAt_63 : decode cX4_nowAt 63 = .ok (.iconst 1, 1) := by decide +kernel
theorem dX4_nowAt_64 : decode cX4_nowAt 64 = .ok (.if_icmp .ne 14, 3) := by decide +kernel
theorem dX4_nowAt_67 : decode cX4_nowAt 67 = .ok (.aload_n 0, 1) := by decide +kernel
theorem dX4_nowAt_68 : decode cX4_nowAt 68 = .ok (.getfield 16, 3) := by decide +kernel
theorem dX4_nowAt_71 : decode cX4_nowAt 71 = .ok (.iload_n 3, 1) := by decide +kernel
theorem dX4_nowAt_72 : decode cX4_nowAt 72 = .ok (.iaload, 1) := by decide +kernel
theorem dX4_nowAt_73 : decode cX4_nowAt 73 = .ok (.iconst 1, 1) := by decide +kernel
theorem dX4_nowAt_74 : decode cX4_nowAt 74 = .ok (.iadd, 1) := by decide +kernel
theorem dX4_nowAt_75 : decode cX4_nowAt 75 = .ok (.goto 4, 3) := by decide +kernel
theorem dX4_nowAt_78 : decode cX4_nowAt 78 = .ok (.iconst 0, 1) := by decide +kernel
theorem dX4_nowAt_79 : decode cX4_nowAt 79 = .ok (.ireturn, 1) := by decide +kernel
theorem dX4_backUp_0 : decode cX4_backUp 0 = .ok (.aload_n 0, 1) := by decide +kernel
theorem dX4_backUp_1 : decode cX4_backUp 1 = .ok (.aload_n 0, 1) := by decide +kernel
theorem dX4_backUp_2 : decode cX4_backUp 2 = .ok (.getfield 151, 3) := by decide +kernel
theorem dX4_backUp_5 : decode cX4_backUp 5 = .ok (.bipush 6, 2) := by decide +kernel
theorem dX4_backUp_7 : decode cX4_backUp 7 = .ok (.if_icmp .ne 7, 3) := by decide +kernel
theorem dX4_backUp_10 : decode cX4_backUp 10 = .ok (.iconst 1, 1) := by decide +kernel
theorem dX4_backUp_11 : decode cX4_backUp 11 = .ok (.goto 4, 3) := by decide +kernel
theorem dX4_backUp_14 : decode cX4_backUp 14 = .ok (.iconst 0, 1) := by decide +kernel
theorem dX4_backUp_15 : decode cX4_backUp 15 = .ok (.putfield 44, 3) := by decide +kernel
theorem dX4_backUp_18 : decode cX4_backUp 18 = .ok (.aload_n 0, 1) := by decide +kernel
theorem dX4_backUp_19 : decode cX4_backUp 19 = .ok (.getfield 44, 3) := by decide +kernel
theorem dX4_backUp_22 : decode cX4_backUp 22 = .ok (.ifCond .le 5, 3) := by decide +kernel
theorem dX4_backUp_25 : decode cX4_backUp 25 = .ok (.iconst (-1), 1) := by decide +kernel
theorem dX4_backUp_26 : decode cX4_backUp 26 = .ok (.ireturn, 1) := by decide +kernel
theorem dX4_backUp_27 : decode cX4_backUp 27 = .ok (.iconst 0, 1) := by decide +kernel
theorem dX4_backUp_28 : decode cX4_backUp 28 = .ok (.istore_n 2, 1) := by decide +kernel
theorem dX4_backUp_29 : decode cX4_backUp 29 = .ok (.iload_n 2, 1) := by decide +kernel
theorem dX4_backUp_30 : decode cX4_backUp 30 = .ok (.sipush 2046, 3) := by decide +kernel
theorem dX4_backUp_33 : decode cX4_backUp 33 = .ok (.if_icmp .ge 30, 3) := by decide +kernel
theorem dX4_backUp_36 : decode cX4_backUp 36 = .ok (.aload_n 0, 1) := by decide +kernel
theorem dX4_backUp_37 : decode cX4_backUp 37 = .ok (.getfield 38, 3) := by decide +kernel
theorem dX4_backUp_40 : decode cX4_backUp 40 = .ok (.sipush 2046, 3) := by decide +kernel
theorem dX4_backUp_43 : decode cX4_backUp 43 = .ok (.aload_n 0, 1) := by decide +kernel
theorem dX4_backUp_44 : decode cX4_backUp 44 = .ok (.getfield 151, 3) := by decide +kernel
theorem dX4_backUp_47 : decode cX4_backUp 47 = .ok (.imul, 1) := by decide +kernel
theorem dX4_backUp_48 : decode cX4_backUp 48 = .ok (.iload_n 2, 1) := by decide +kernel
theorem dX4_backUp_49 : decode cX4_backUp 49 = .ok (.iadd, 1) := by decide +kernel
theorem dX4_backUp_50 : decode cX4_backUp 50 = .ok (.aload_n 0, 1) := by decide +kernel
theorem dX4_backUp_51 : decode cX4_backUp 51 = .ok (.iload_n 1, 1) := by decide +kernel
theorem dX4_backUp_52 : decode cX4_backUp 52 = .ok (.iload_n 2, 1) := by decide +kernel
theorem dX4_backUp_53 : decode cX4_backUp 53 = .ok (.invokevirtual 154, 3) := by decide +kernel
theorem dX4_backUp_56 : decode cX4_backUp 56 = .ok (.iastore, 1) := by decide +kernel
theorem dX4_backUp_57 : decode cX4_backUp 57 = .ok (.iinc 2 1, 3) := by decide +kernel
theorem dX4_backUp_60 : decode cX4_backUp 60 = .ok (.goto (-31), 3) := by decide +kernel
theorem dX4_backUp_63 : decode cX4_backUp 63 = .ok (.aload_n 0, 1) := by decide +kernel
theorem dX4_backUp_64 : decode cX4_backUp 64 = .ok (.getfield 41, 3) := by decide +kernel
theorem dX4_backUp_67 : decode cX4_backUp 67 = .ok (.aload_n 0, 1) := by decide +kernel
theorem dX4_backUp_68 : decode cX4_backUp 68 = .ok (.getfield 151, 3) := by decide +kernel
theorem dX4_backUp_71 : decode cX4_backUp 71 = .ok (.iload_n 1, 1) := by decide +kernel
theorem dX4_backUp_72 : decode cX4_backUp 72 = .ok (.bastore, 1) := by decide +kernel
theorem dX4_backUp_73 : decode cX4_backUp 73 = .ok (.aload_n 0, 1) := by decide +kernel
theorem dX4_backUp_74 : decode cX4_backUp 74 = .ok (.dup, 1) := by decide +kernel
theorem dX4_backUp_75 : decode cX4_backUp 75 = .ok (.getfield 151, 3) := by decide +kernel
theorem dX4_backUp_78 : decode cX4_backUp 78 = .ok (.iconst 1, 1) := by decide +kernel
theorem dX4_backUp_79 : decode cX4_backUp 79 = .ok (.iadd, 1) := by decide +kernel
theorem dX4_backUp_80 : decode cX4_backUp 80 = .ok (.putfield 151, 3) := by decide +kernel
theorem dX4_backUp_83 : decode cX4_backUp 83 = .ok (.aload_n 0, 1) := by decide +kernel
theorem dX4_backUp_84 : decode cX4_backUp 84 = .ok (.getfield 151, 3) := by decide +kernel
theorem dX4_backUp_87 : decode cX4_backUp 87 = .ok (.iconst 1, 1) := by decide +kernel
theorem dX4_backUp_88 : decode cX4_backUp 88 = .ok (.isub, 1) := by decide +kernel
theorem dX4_backUp_89 : decode cX4_backUp 89 = .ok (.ireturn, 1) := by decide +kernel
theorem dX4_isBackup_0 : decode cX4_isBackup 0 = .ok (.aload_n 0, 1) := by decide +kernel
theorem dX4_isBackup_1 : decode cX4_isBackup 1 = .ok (.iload_n 1, 1) := by decide +kernel
theorem dX4_isBackup_2 : decode cX4_isBackup 2 = .ok (.i2l, 1) := by decide +kernel
theorem dX4_isBackup_3 : decode cX4_isBackup 3 = .ok (.lconst 0, 1) := by decide +kernel
theorem dX4_isBackup_4 : decode cX4_isBackup 4 = .ok (.aload_n 0, 1) := by decide +kernel
theorem dX4_isBackup_5 : decode cX4_isBackup 5 = .ok (.getfield 151, 3) := by decide +kernel
theorem dX4_isBackup_8 : decode cX4_isBackup 8 = .ok (.iconst 1, 1) := by decide +kernel
theorem dX4_isBackup_9 : decode cX4_isBackup 9 = .ok (.isub, 1) := by decide +kernel
theorem dX4_isBackup_10 : decode cX4_isBackup 10 = .ok (.i2l, 1) := by decide +kernel
theorem dX4_isBackup_11 : decode cX4_isBackup 11 = .ok (.invokestatic 50, 3) := by decide +kernel
theorem dX4_isBackup_14 : decode cX4_isBackup 14 = .ok (.ifCond .eq 7, 3) := by decide +kernel
theorem dX4_isBackup_17 : decode cX4_isBackup 17 = .ok (.iconst 0, 1) := by decide +kernel
theorem dX4_isBackup_18 : decode cX4_isBackup 18 = .ok (.goto 4, 3) := by decide +kernel
theorem dX4_isBackup_21 : decode cX4_isBackup 21 = .ok (.iconst 1, 1) := by decide +kernel
theorem dX4_isBackup_22 : decode cX4_isBackup 22 = .ok (.putfield 44, 3) := by decide +kernel
theorem dX4_isBackup_25 : decode cX4_isBackup 25 = .ok (.aload_n 0, 1) := by decide +kernel
theorem dX4_isBackup_26 : decode cX4_isBackup 26 = .ok (.getfield 44, 3) := by decide +kernel
theorem dX4_isBackup_29 : decode cX4_isBackup 29 = .ok (.ifCond .ne 7, 3) := by decide +kernel
theorem dX4_isBackup_32 : decode cX4_isBackup 32 = .ok (.iconst 1, 1) := by decide +kernel
theorem dX4_isBackup_33 : decode cX4_isBackup 33 = .ok (.goto 4, 3) := by decide +kernel
theorem dX4_isBackup_36 : decode cX4_isBackup 36 = .ok (.iconst 0, 1) := by decide +kernel
theorem dX4_isBackup_37 : decode cX4_isBackup 37 = .ok (.ireturn, 1) := by decide +kernel
theorem dX4_bytes_0 : decode cX4_bytes 0 = .ok (.aload_n 0, 1) := by decide +kernel
theorem dX4_bytes_1 : decode cX4_bytes 1 = .ok (.iload_n 1, 1) := by decide +kernel
theorem dX4_bytes_2 : decode cX4_bytes 2 = .ok (.invokevirtual 158, 3) := by decide +kernel
theorem dX4_bytes_5 : decode cX4_bytes 5 = .ok (.ifCond .eq 7, 3) := by decide +kernel
theorem dX4_bytes_8 : decode cX4_bytes 8 = .ok (.iconst 0, 1) := by decide +kernel
theorem dX4_bytes_9 : decode cX4_bytes 9 = .ok (.goto 4, 3) := by decide +kernel
theorem dX4_bytes_12 : decode cX4_bytes 12 = .ok (.iconst (-1), 1) := by decide +kernel
theorem dX4_bytes_13 : decode cX4_bytes 13 = .ok (.istore_n 2, 1) := by decide +kernel
theorem dX4_bytes_14 : decode cX4_bytes 14 = .ok (.iconst 0, 1) := by decide +kernel
theorem dX4_bytes_15 : decode cX4_bytes 15 = .ok (.istore_n 3, 1) := by decide +kernel
theorem dX4_bytes_16 : decode cX4_bytes 16 = .ok (.iload_n 3, 1) := by decide +kernel
theorem dX4_bytes_17 : decode cX4_bytes 17 = .ok (.sipush 2046, 3) := by decide +kernel
theorem dX4_bytes_20 : decode cX4_bytes 20 = .ok (.if_icmp .ge 46, 3) := by decide +kernel
theorem dX4_bytes_23 : decode cX4_bytes 23 = .ok (.aload_n 0, 1) := by decide +kernel
theorem dX4_bytes_24 : decode cX4_bytes 24 = .ok (.getfield 44, 3) := by decide +kernel
theorem dX4_bytes_27 : decode cX4_bytes 27 = .ok (.ifCond .ne 39, 3) := by decide +kernel
theorem dX4_bytes_30 : decode cX4_bytes 30 = .ok (.aload_n 0, 1) := by decide +kernel
theorem dX4_bytes_31 : decode cX4_bytes 31 = .ok (.getfield 38, 3) := by decide +kernel
theorem dX4_bytes_34 : decode cX4_bytes 34 = .ok (.sipush 2046, 3) := by decide +kernel
theorem dX4_bytes_37 : decode cX4_bytes 37 = .ok (.iload_n 1, 1) := by decide +kernel
theorem dX4_bytes_38 : decode cX4_bytes 38 = .ok (.imul, 1) := by decide +kernel
theorem dX4_bytes_39 : decode cX4_bytes 39 = .ok (.iload_n 3, 1) := by decide +kernel
theorem dX4_bytes_40 : decode cX4_bytes 40 = .ok (.iadd, 1) := by decide +kernel
theorem dX4_bytes_41 : decode cX4_bytes 41 = .ok (.iaload, 1) := by decide +kernel
theorem dX4_bytes_42 : decode cX4_bytes 42 = .ok (.istore 4, 2) := by decide +kernel
theorem dX4_bytes_44 : decode cX4_bytes 44 = .ok (.iload_n 2, 1) := by decide +kernel
theorem dX4_bytes_45 : decode cX4_bytes 45 = .ok (.iload 4, 2) := by decide +kernel
theorem dX4_bytes_47 : decode cX4_bytes 47 = .ok (.ifCond .le 10, 3) := by decide +kernel
theorem dX4_bytes_50 : decode cX4_bytes 50 = .ok (.iload 4, 2) := by decide +kernel
theorem dX4_bytes_52 : decode cX4_bytes 52 = .ok (.iconst 1, 1) := by decide +kernel
theorem dX4_bytes_53 : decode cX4_bytes 53 = .ok (.isub, 1) := by decide +kernel
theorem dX4_bytes_54 : decode cX4_bytes 54 = .ok (.goto 4, 3) := by decide +kernel
theorem dX4_bytes_57 : decode cX4_bytes 57 = .ok (.iconst 0, 1) := by decide +kernel
theorem dX4_bytes_58 : decode cX4_bytes 58 = .ok (.iadd, 1) := by decide +kernel
theorem dX4_bytes_59 : decode cX4_bytes 59 = .ok (.istore_n 2, 1) := by decide +kernel
theorem dX4_bytes_60 : decode cX4_bytes 60 = .ok (.iinc 3 1, 3) := by decide +kernel
theorem dX4_bytes_63 : decode cX4_bytes 63 = .ok (.goto (-47), 3) := by decide +kernel
theorem dX4_bytes_66 : decode cX4_bytes 66 = .ok (.iload_n 2, 1) := by decide +kernel
theorem dX4_bytes_67 : decode cX4_bytes 67 = .ok (.ireturn, 1) := by decide +kernel
theorem dX4_differences_0 : decode cX4_differences 0 = .ok (.aload_n 0, 1) := by decide +kernel
theorem dX4_differences_1 : decode cX4_differences 1 = .ok (.iload_n 1, 1) := by decide +kernel
theorem dX4_differences_2 : decode cX4_differences 2 = .ok (.invokevirtual 158, 3) := by decide +kernel
theorem dX4_differences_5 : decode cX4_differences 5 = .ok (.ifCond .eq 7, 3) := by decide +kernel
theorem dX4_differences_8 : decode cX4_differences 8 = .ok (.iconst 0, 1) := by decide +kernel
theorem dX4_differences_9 : decode cX4_differences 9 = .ok (.goto 4, 3) := by decide +kernel
theorem dX4_differences_12 : decode cX4_differences 12 = .ok (.iconst (-1), 1) := by decide +kernel
theorem dX4_differences_13 : decode cX4_differences 13 = .ok (.istore_n 2, 1) := by decide +kernel
theorem dX4_differences_14 : decode cX4_differences 14 = .ok (.iconst 0, 1) := by decide +kernel
theorem dX4_differences_15 : decode cX4_differences 15 = .ok (.istore_n 3, 1) := by decide +kernel
theorem dX4_differences_16 : decode cX4_differences 16 = .ok (.iload_n 3, 1) := by decide +kernel
theorem dX4_differences_17 : decode cX4_differences 17 = .ok (.sipush 2046, 3) := by decide +kernel
theorem dX4_differences_20 : decode cX4_differences 20 = .ok (.if_icmp .ge 50, 3) := by decide +kernel
theorem dX4_differences_23 : decode cX4_differences 23 = .ok (.aload_n 0, 1) := by decide +kernel
theorem dX4_differences_24 : decode cX4_differences 24 = .ok (.getfield 44, 3) := by decide +kernel
theorem dX4_differences_27 : decode cX4_differences 27 = .ok (.ifCond .ne 43, 3) := by decide +kernel
theorem dX4_differences_30 : decode cX4_differences 30 = .ok (.iload_n 2, 1) := by decide +kernel
theorem dX4_differences_31 : decode cX4_differences 31 = .ok (.aload_n 0, 1) := by decide +kernel
theorem dX4_differences_32 : decode cX4_differences 32 = .ok (.getfield 38, 3) := by decide +kernel
theorem dX4_differences_35 : decode cX4_differences 35 = .ok (.sipush 2046, 3) := by decide +kernel
theorem dX4_differences_38 : decode cX4_differences 38 = .ok (.iload_n 1, 1) := by decide +kernel
theorem dX4_differences_39 : decode cX4_differences 39 = .ok (.imul, 1) := by decide +kernel
theorem dX4_differences_40 : decode cX4_differences 40 = .ok (.iload_n 3, 1) := by decide +kernel
theorem dX4_differences_41 : decode cX4_differences 41 = .ok (.iadd, 1) := by decide +kernel
theorem dX4_differences_42 : decode cX4_differences 42 = .ok (.iaload, 1) := by decide +kernel
theorem dX4_differences_43 : decode cX4_differences 43 = .ok (.aload_n 0, 1) := by decide +kernel
theorem dX4_differences_44 : decode cX4_differences 44 = .ok (.aload_n 0, 1) := by decide +kernel
theorem dX4_differences_45 : decode cX4_differences 45 = .ok (.getfield 41, 3) := by decide +kernel
theorem dX4_differences_48 : decode cX4_differences 48 = .ok (.iload_n 1, 1) := by decide +kernel
theorem dX4_differences_49 : decode cX4_differences 49 = .ok (.baload, 1) := by decide +kernel
theorem dX4_differences_50 : decode cX4_differences 50 = .ok (.iload_n 3, 1) := by decide +kernel
theorem dX4_differences_51 : decode cX4_differences 51 = .ok (.invokevirtual 154, 3) := by decide +kernel
theorem dX4_differences_54 : decode cX4_differences 54 = .ok (.if_icmp .ne 7, 3) := by decide +kernel
theorem dX4_differences_57 : decode cX4_differences 57 = .ok (.iconst 0, 1) := by decide +kernel
theorem dX4_differences_58 : decode cX4_differences 58 = .ok (.goto 4, 3) := by decide +kernel
theorem dX4_differences_61 : decode cX4_differences 61 = .ok (.iconst 1, 1) := by decide +kernel
theorem dX4_differences_62 : decode cX4_differences 62 = .ok (.iadd, 1) := by decide +kernel
theorem dX4_differences_63 : decode cX4_differences 63 = .ok (.istore_n 2, 1) := by decide +kernel
theorem dX4_differences_64 : decode cX4_differences 64 = .ok (.iinc 3 1, 3) := by decide +kernel
theorem dX4_differences_67 : decode cX4_differences 67 = .ok (.goto (-51), 3) := by decide +kernel
theorem dX4_differences_70 : decode cX4_differences 70 = .ok (.iload_n 2, 1) := by decide +kernel
theorem dX4_differences_71 : decode cX4_differences 71 = .ok (.ireturn, 1) := by decide +kernel
theorem dX4_shownShare_0 : decode cX4_shownShare 0 = .ok (.aload_n 0, 1) := by decide +kernel
theorem dX4_shownShare_1 : decode cX4_shownShare 1 = .ok (.invokevirtual 141, 3) := by decide +kernel
theorem dX4_shownShare_4 : decode cX4_shownShare 4 = .ok (.istore_n 1, 1) := by decide +kernel
theorem dX4_shownShare_5 : decode cX4_shownShare 5 = .ok (.aload_n 0, 1) := by decide +kernel
theorem dX4_shownShare_6 : decode cX4_shownShare 6 = .ok (.iload_n 1, 1) := by decide +kernel
theorem dX4_shownShare_7 : decode cX4_shownShare 7 = .ok (.ifCond .ne 7, 3) := by decide +kernel
theorem dX4_shownShare_10 : decode cX4_shownShare 10 = .ok (.iconst 1, 1) := by decide +kernel
theorem dX4_shownShare_11 : decode cX4_shownShare 11 = .ok (.goto 4, 3) := by decide +kernel
theorem dX4_shownShare_14 : decode cX4_shownShare 14 = .ok (.iconst 0, 1) := by decide +kernel
theorem dX4_shownShare_15 : decode cX4_shownShare 15 = .ok (.putfield 44, 3) := by decide +kernel
theorem dX4_shownShare_18 : decode cX4_shownShare 18 = .ok (.aload_n 0, 1) := by decide +kernel
theorem dX4_shownShare_19 : decode cX4_shownShare 19 = .ok (.getfield 44, 3) := by decide +kernel
theorem dX4_shownShare_22 : decode cX4_shownShare 22 = .ok (.ifCond .ne 14, 3) := by decide +kernel
theorem dX4_shownShare_25 : decode cX4_shownShare 25 = .ok (.aload_n 0, 1) := by decide +kernel
theorem dX4_shownShare_26 : decode cX4_shownShare 26 = .ok (.invokevirtual 145, 3) := by decide +kernel
theorem dX4_shownShare_29 : decode cX4_shownShare 29 = .ok (.i2f, 1) := by decide +kernel
theorem dX4_shownShare_30 : decode cX4_shownShare 30 = .ok (.iload_n 1, 1) := by decide +kernel
theorem dX4_shownShare_31 : decode cX4_shownShare 31 = .ok (.i2f, 1) := by decide +kernel
theorem dX4_shownShare_32 : decode cX4_shownShare 32 = .ok (.fdiv, 1) := by decide +kernel
theorem dX4_shownShare_33 : decode cX4_shownShare 33 = .ok (.goto 4, 3) := by decide +kernel
theorem dX4_shownShare_36 : decode cX4_shownShare 36 = .ok (.fconst 0, 1) := by decide +kernel
theorem dX4_shownShare_37 : decode cX4_shownShare 37 = .ok (.freturn, 1) := by decide +kernel
theorem dX4_meanSize_0 : decode cX4_meanSize 0 = .ok (.aload_n 0, 1) := by decide +kernel
theorem dX4_meanSize_1 : decode cX4_meanSize 1 = .ok (.aload_n 0, 1) := by decide +kernel
theorem dX4_meanSize_2 : decode cX4_meanSize 2 = .ok (.iload_n 1, 1) := by decide +kernel
theorem dX4_meanSize_3 : decode cX4_meanSize 3 = .ok (.invokevirtual 74, 3) := by decide +kernel
theorem dX4_meanSize_6 : decode cX4_meanSize 6 = .ok (.ifCond .eq 7, 3) := by decide +kernel
theorem dX4_meanSize_9 : decode cX4_meanSize 9 = .ok (.iconst 0, 1) := by decide +kernel
theorem dX4_meanSize_10 : decode cX4_meanSize 10 = .ok (.goto 4, 3) := by decide +kernel
theorem dX4_meanSize_13 : decode cX4_meanSize 13 = .ok (.iconst 1, 1) := by decide +kernel
theorem dX4_meanSize_14 : decode cX4_meanSize 14 = .ok (.putfield 44, 3) := by decide +kernel
theorem dX4_meanSize_17 : decode cX4_meanSize 17 = .ok (.aload_n 0, 1) := by decide +kernel
theorem dX4_meanSize_18 : decode cX4_meanSize 18 = .ok (.getfield 44, 3) := by decide +kernel
theorem dX4_meanSize_21 : decode cX4_meanSize 21 = .ok (.ifCond .le 5, 3) := by decide +kernel
theorem dX4_meanSize_24 : decode cX4_meanSize 24 = .ok (.dconst 0, 1) := by decide +kernel
theorem dX4_meanSize_25 : decode cX4_meanSize 25 = .ok (.dreturn, 1) := by decide +kernel
theorem dX4_meanSize_26 : decode cX4_meanSize 26 = .ok (.iconst 0, 1) := by decide +kernel
theorem dX4_meanSize_27 : decode cX4_meanSize 27 = .ok (.istore_n 2, 1) := by decide +kernel
theorem dX4_meanSize_28 : decode cX4_meanSize 28 = .ok (.sipush 341, 3) := by decide +kernel
theorem dX4_meanSize_31 : decode cX4_meanSize 31 = .ok (.iload_n 1, 1) := by decide +kernel
theorem dX4_meanSize_32 : decode cX4_meanSize 32 = .ok (.imul, 1) := by decide +kernel
theorem dX4_meanSize_33 : decode cX4_meanSize 33 = .ok (.istore_n 3, 1) := by decide +kernel
theorem dX4_meanSize_34 : decode cX4_meanSize 34 = .ok (.iload_n 3, 1) := by decide +kernel
theorem dX4_meanSize_35 : decode cX4_meanSize 35 = .ok (.sipush 341, 3) := by decide +kernel
theorem dX4_meanSize_38 : decode cX4_meanSize 38 = .ok (.iload_n 1, 1) := by decide +kernel
theorem dX4_meanSize_39 : decode cX4_meanSize 39 = .ok (.imul, 1) := by decide +kernel
theorem dX4_meanSize_40 : decode cX4_meanSize 40 = .ok (.sipush 341, 3) := by decide +kernel
theorem dX4_meanSize_43 : decode cX4_meanSize 43 = .ok (.iadd, 1) := by decide +kernel
theorem dX4_meanSize_44 : decode cX4_meanSize 44 = .ok (.if_icmp .ge 32, 3) := by decide +kernel
theorem dX4_meanSize_47 : decode cX4_meanSize 47 = .ok (.iload_n 2, 1) := by decide +kernel
theorem dX4_meanSize_48 : decode cX4_meanSize 48 = .ok (.aload_n 0, 1) := by decide +kernel
theorem dX4_meanSize_49 : decode cX4_meanSize 49 = .ok (.getfield 7, 3) := by decide +kernel
theorem dX4_meanSize_52 : decode cX4_meanSize 52 = .ok (.iload_n 3, 1) := by decide +kernel
theorem dX4_meanSize_53 : decode cX4_meanSize 53 = .ok (.iaload, 1) := by decide +kernel
theorem dX4_meanSize_54 : decode cX4_meanSize 54 = .ok (.iconst 1, 1) := by decide +kernel
theorem dX4_meanSize_55 : decode cX4_meanSize 55 = .ok (.if_icmp .ne 12, 3) := by decide +kernel
theorem dX4_meanSize_58 : decode cX4_meanSize 58 = .ok (.aload_n 0, 1) := by decide +kernel
theorem dX4_meanSize_59 : decode cX4_meanSize 59 = .ok (.getfield 16, 3) := by decide +kernel
theorem dX4_meanSize_62 : decode cX4_meanSize 62 = .ok (.iload_n 3, 1) := by decide +kernel
theorem dX4_meanSize_63 : decode cX4_meanSize 63 = .ok (.iaload, 1) := by decide +kernel
theorem dX4_meanSize_64 : decode cX4_meanSize 64 = .ok (.goto 4, 3) := by decide +kernel
theorem dX4_meanSize_67 : decode cX4_meanSize 67 = .ok (.iconst 0, 1) := by decide +kernel
theorem dX4_meanSize_68 : decode cX4_meanSize 68 = .ok (.iadd, 1) := by decide +kernel
theorem dX4_meanSize_69 : decode cX4_meanSize 69 = .ok (.istore_n 2, 1) := by decide +kernel
theorem dX4_meanSize_70 : decode cX4_meanSize 70 = .ok (.iinc 3 1, 3) := by decide +kernel
theorem dX4_meanSize_73 : decode cX4_meanSize 73 = .ok (.goto (-39), 3) := by decide +kernel
theorem dX4_meanSize_76 : decode cX4_meanSize 76 = .ok (.aload_n 0, 1) := by decide +kernel
theorem dX4_meanSize_77 : decode cX4_meanSize 77 = .ok (.iload_n 1, 1) := by decide +kernel
theorem dX4_meanSize_78 : decode cX4_meanSize 78 = .ok (.iconst 1, 1) := by decide +kernel
theorem dX4_meanSize_79 : decode cX4_meanSize 79 = .ok (.invokevirtual 148, 3) := by decide +kernel
theorem dX4_meanSize_82 : decode cX4_meanSize 82 = .ok (.istore_n 3, 1) := by decide +kernel
theorem dX4_meanSize_83 : decode cX4_meanSize 83 = .ok (.aload_n 0, 1) := by decide +kernel
theorem dX4_meanSize_84 : decode cX4_meanSize 84 = .ok (.iload_n 3, 1) := by decide +kernel
theorem dX4_meanSize_85 : decode cX4_meanSize 85 = .ok (.ifCond .ne 7, 3) := by decide +kernel
theorem dX4_meanSize_88 : decode cX4_meanSize 88 = .ok (.iconst 2, 1) := by decide +kernel
theorem dX4_meanSize_89 : decode cX4_meanSize 89 = .ok (.goto 4, 3) := by decide +kernel
theorem dX4_meanSize_92 : decode cX4_meanSize 92 = .ok (.iconst 0, 1) := by decide +kernel
theorem dX4_meanSize_93 : decode cX4_meanSize 93 = .ok (.putfield 44, 3) := by decide +kernel
theorem dX4_meanSize_96 : decode cX4_meanSize 96 = .ok (.aload_n 0, 1) := by decide +kernel
theorem dX4_meanSize_97 : decode cX4_meanSize 97 = .ok (.getfield 44, 3) := by decide +kernel
theorem dX4_meanSize_100 : decode cX4_meanSize 100 = .ok (.ifCond .ne 11, 3) := by decide +kernel
theorem dX4_meanSize_103 : decode cX4_meanSize 103 = .ok (.iload_n 2, 1) := by decide +kernel
theorem dX4_meanSize_104 : decode cX4_meanSize 104 = .ok (.i2d, 1) := by decide +kernel
theorem dX4_meanSize_105 : decode cX4_meanSize 105 = .ok (.iload_n 3, 1) := by decide +kernel
theorem dX4_meanSize_106 : decode cX4_meanSize 106 = .ok (.i2d, 1) := by decide +kernel
theorem dX4_meanSize_107 : decode cX4_meanSize 107 = .ok (.ddiv, 1) := by decide +kernel
theorem dX4_meanSize_108 : decode cX4_meanSize 108 = .ok (.goto 4, 3) := by decide +kernel
theorem dX4_meanSize_111 : decode cX4_meanSize 111 = .ok (.dconst 0, 1) := by decide +kernel
theorem dX4_meanSize_112 : decode cX4_meanSize 112 = .ok (.dreturn, 1) := by decide +kernel
theorem dJx00060_init_a7421_0 : decode cJx00060_init_a7421 0 = .ok (.aload_n 0, 1) := by decide +kernel
theorem dJx00060_init_a7421_1 : decode cJx00060_init_a7421 1 = .ok (.aload_n 1, 1) := by decide +kernel
theorem dJx00060_init_a7421_2 : decode cJx00060_init_a7421 2 = .ok (.invokespecial 7, 3) := by decide +kernel
theorem dJx00060_init_a7421_5 : decode cJx00060_init_a7421 5 = .ok (.return_, 1) := by decide +kernel

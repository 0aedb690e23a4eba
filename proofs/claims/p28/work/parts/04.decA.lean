theorem dX0_init_0 : decode cX0_init 0 = .ok (.aload_n 0, 1) := by decide +kernel
theorem dX0_init_1 : decode cX0_init 1 = .ok (.invokespecial 3, 3) := by decide +kernel
theorem dX0_init_4 : decode cX0_init 4 = .ok (.aload_n 0, 1) := by decide +kernel
theorem dX0_init_5 : decode cX0_init 5 = .ok (.iload_n 1, 1) := by decide +kernel
theorem dX0_init_6 : decode cX0_init 6 = .ok (.putfield 9, 3) := by decide +kernel
theorem dX0_init_9 : decode cX0_init 9 = .ok (.aload_n 0, 1) := by decide +kernel
theorem dX0_init_10 : decode cX0_init 10 = .ok (.iload_n 1, 1) := by decide +kernel
theorem dX0_init_11 : decode cX0_init 11 = .ok (.ifCond .eq 9, 3) := by decide +kernel
theorem dX0_init_14 : decode cX0_init 14 = .ok (.sipush 341, 3) := by decide +kernel
theorem dX0_init_17 : decode cX0_init 17 = .ok (.goto 6, 3) := by decide +kernel
theorem dX0_init_20 : decode cX0_init 20 = .ok (.sipush 2046, 3) := by decide +kernel
theorem dX0_init_23 : decode cX0_init 23 = .ok (.newarray .int, 2) := by decide +kernel
theorem dX0_init_25 : decode cX0_init 25 = .ok (.putfield 15, 3) := by decide +kernel
theorem dX0_init_28 : decode cX0_init 28 = .ok (.return_, 1) := by decide +kernel
theorem dX0_sum_0 : decode cX0_sum 0 = .ok (.iconst 0, 1) := by decide +kernel
theorem dX0_sum_1 : decode cX0_sum 1 = .ok (.istore_n 1, 1) := by decide +kernel
theorem dX0_sum_2 : decode cX0_sum 2 = .ok (.iconst 0, 1) := by decide +kernel
theorem dX0_sum_3 : decode cX0_sum 3 = .ok (.istore_n 2, 1) := by decide +kernel
theorem dX0_sum_4 : decode cX0_sum 4 = .ok (.iload_n 2, 1) := by decide +kernel
theorem dX0_sum_5 : decode cX0_sum 5 = .ok (.aload_n 0, 1) := by decide +kernel
theorem dX0_sum_6 : decode cX0_sum 6 = .ok (.getfield 15, 3) := by decide +kernel
theorem dX0_sum_9 : decode cX0_sum 9 = .ok (.arraylength, 1) := by decide +kernel
theorem dX0_sum_10 : decode cX0_sum 10 = .ok (.if_icmp .ge 32, 3) := by decide +kernel
theorem dX0_sum_13 : decode cX0_sum 13 = .ok (.iload_n 1, 1) := by decide +kernel
theorem dX0_sum_14 : decode cX0_sum 14 = .ok (.aload_n 0, 1) := by decide +kernel
theorem dX0_sum_15 : decode cX0_sum 15 = .ok (.getfield 15, 3) := by decide +kernel
theorem dX0_sum_18 : decode cX0_sum 18 = .ok (.iload_n 2, 1) := by decide +kernel
theorem dX0_sum_19 : decode cX0_sum 19 = .ok (.iaload, 1) := by decide +kernel
theorem dX0_sum_20 : decode cX0_sum 20 = .ok (.iconst (-1), 1) := by decide +kernel
theorem dX0_sum_21 : decode cX0_sum 21 = .ok (.if_icmp .ne 7, 3) := by decide +kernel
theorem dX0_sum_24 : decode cX0_sum 24 = .ok (.iconst 0, 1) := by decide +kernel
theorem dX0_sum_25 : decode cX0_sum 25 = .ok (.goto 9, 3) := by decide +kernel
theorem dX0_sum_28 : decode cX0_sum 28 = .ok (.aload_n 0, 1) := by decide +kernel
theorem dX0_sum_29 : decode cX0_sum 29 = .ok (.getfield 15, 3) := by decide +kernel
theorem dX0_sum_32 : decode cX0_sum 32 = .ok (.iload_n 2, 1) := by decide +kernel
theorem dX0_sum_33 : decode cX0_sum 33 = .ok (.iaload, 1) := by decide +kernel
theorem dX0_sum_34 : decode cX0_sum 34 = .ok (.iadd, 1) := by decide +kernel
theorem dX0_sum_35 : decode cX0_sum 35 = .ok (.istore_n 1, 1) := by decide +kernel
theorem dX0_sum_36 : decode cX0_sum 36 = .ok (.iinc 2 1, 3) := by decide +kernel
theorem dX0_sum_39 : decode cX0_sum 39 = .ok (.goto (-35), 3) := by decide +kernel
theorem dX0_sum_42 : decode cX0_sum 42 = .ok (.iload_n 1, 1) := by decide +kernel
theorem dX0_sum_43 : decode cX0_sum 43 = .ok (.ireturn, 1) := by decide +kernel
theorem dX1_init_0 : decode cX1_init 0 = .ok (.aload_n 0, 1) := by decide +kernel
theorem dX1_init_1 : decode cX1_init 1 = .ok (.invokespecial 3, 3) := by decide +kernel
theorem dX1_init_4 : decode cX1_init 4 = .ok (.aload_n 0, 1) := by decide +kernel
theorem dX1_init_5 : decode cX1_init 5 = .ok (.sipush 341, 3) := by decide +kernel
theorem dX1_init_8 : decode cX1_init 8 = .ok (.newarray .int, 2) := by decide +kernel
theorem dX1_init_10 : decode cX1_init 10 = .ok (.putfield 9, 3) := by decide +kernel
theorem dX1_init_13 : decode cX1_init 13 = .ok (.aload_n 0, 1) := by decide +kernel
theorem dX1_init_14 : decode cX1_init 14 = .ok (.sipush 341, 3) := by decide +kernel
theorem dX1_init_17 : decode cX1_init 17 = .ok (.newarray .int, 2) := by decide +kernel
theorem dX1_init_19 : decode cX1_init 19 = .ok (.putfield 15, 3) := by decide +kernel
theorem dX1_init_22 : decode cX1_init 22 = .ok (.aload_n 0, 1) := by decide +kernel
theorem dX1_init_23 : decode cX1_init 23 = .ok (.sipush 341, 3) := by decide +kernel
theorem dX1_init_26 : decode cX1_init 26 = .ok (.newarray .int, 2) := by decide +kernel
theorem dX1_init_28 : decode cX1_init 28 = .ok (.putfield 18, 3) := by decide +kernel
theorem dX1_init_31 : decode cX1_init 31 = .ok (.aload_n 0, 1) := by decide +kernel
theorem dX1_init_32 : decode cX1_init 32 = .ok (.sipush 341, 3) := by decide +kernel
theorem dX1_init_35 : decode cX1_init 35 = .ok (.newarray .boolean, 2) := by decide +kernel
theorem dX1_init_37 : decode cX1_init 37 = .ok (.putfield 21, 3) := by decide +kernel
theorem dX1_init_40 : decode cX1_init 40 = .ok (.return_, 1) := by decide +kernel
theorem dX1_kindAt_0 : decode cX1_kindAt 0 = .ok (.iload_n 1, 1) := by decide +kernel
theorem dX1_kindAt_1 : decode cX1_kindAt 1 = .ok (.ifCond .lt 21, 3) := by decide +kernel
theorem dX1_kindAt_4 : decode cX1_kindAt 4 = .ok (.iload_n 1, 1) := by decide +kernel
theorem dX1_kindAt_5 : decode cX1_kindAt 5 = .ok (.aload_n 0, 1) := by decide +kernel
theorem dX1_kindAt_6 : decode cX1_kindAt 6 = .ok (.getfield 9, 3) := by decide +kernel
theorem dX1_kindAt_9 : decode cX1_kindAt 9 = .ok (.arraylength, 1) := by decide +kernel
theorem dX1_kindAt_10 : decode cX1_kindAt 10 = .ok (.if_icmp .ge 12, 3) := by decide +kernel
theorem dX1_kindAt_13 : decode cX1_kindAt 13 = .ok (.aload_n 0, 1) := by decide +kernel
theorem dX1_kindAt_14 : decode cX1_kindAt 14 = .ok (.getfield 9, 3) := by decide +kernel
theorem dX1_kindAt_17 : decode cX1_kindAt 17 = .ok (.iload_n 1, 1) := by decide +kernel
theorem dX1_kindAt_18 : decode cX1_kindAt 18 = .ok (.iaload, 1) := by decide +kernel
theorem dX1_kindAt_19 : decode cX1_kindAt 19 = .ok (.goto 4, 3) := by decide +kernel
theorem dX1_kindAt_22 : decode cX1_kindAt 22 = .ok (.iconst 0, 1) := by decide +kernel
theorem dX1_kindAt_23 : decode cX1_kindAt 23 = .ok (.ireturn, 1) := by decide +kernel
theorem dX1_ownerAt_0 : decode cX1_ownerAt 0 = .ok (.iload_n 1, 1) := by decide +kernel
theorem dX1_ownerAt_1 : decode cX1_ownerAt 1 = .ok (.ifCond .lt 21, 3) := by decide +kernel
theorem dX1_ownerAt_4 : decode cX1_ownerAt 4 = .ok (.iload_n 1, 1) := by decide +kernel
theorem dX1_ownerAt_5 : decode cX1_ownerAt 5 = .ok (.aload_n 0, 1) := by decide +kernel
theorem dX1_ownerAt_6 : decode cX1_ownerAt 6 = .ok (.getfield 15, 3) := by decide +kernel
theorem dX1_ownerAt_9 : decode cX1_ownerAt 9 = .ok (.arraylength, 1) := by decide +kernel
theorem dX1_ownerAt_10 : decode cX1_ownerAt 10 = .ok (.if_icmp .ge 12, 3) := by decide +kernel
theorem dX1_ownerAt_13 : decode cX1_ownerAt 13 = .ok (.aload_n 0, 1) := by decide +kernel
theorem dX1_ownerAt_14 : decode cX1_ownerAt 14 = .ok (.getfield 15, 3) := by decide +kernel
theorem dX1_ownerAt_17 : decode cX1_ownerAt 17 = .ok (.iload_n 1, 1) := by decide +kernel
theorem dX1_ownerAt_18 : decode cX1_ownerAt 18 = .ok (.iaload, 1) := by decide +kernel
theorem dX1_ownerAt_19 : decode cX1_ownerAt 19 = .ok (.goto 4, 3) := by decide +kernel
theorem dX1_ownerAt_22 : decode cX1_ownerAt 22 = .ok (.iconst 0, 1) := by decide +kernel
theorem dX1_ownerAt_23 : decode cX1_ownerAt 23 = .ok (.ireturn, 1) := by decide +kernel
theorem dX1_valueAt_0 : decode cX1_valueAt 0 = .ok (.iload_n 1, 1) := by decide +kernel
theorem dX1_valueAt_1 : decode cX1_valueAt 1 = .ok (.ifCond .lt 21, 3) := by decide +kernel
theorem dX1_valueAt_4 : decode cX1_valueAt 4 = .ok (.iload_n 1, 1) := by decide +kernel
theorem dX1_valueAt_5 : decode cX1_valueAt 5 = .ok (.aload_n 0, 1) := by decide +kernel
theorem dX1_valueAt_6 : decode cX1_valueAt 6 = .ok (.getfield 18, 3) := by decide +kernel
theorem dX1_valueAt_9 : decode cX1_valueAt 9 = .ok (.arraylength, 1) := by decide +kernel
theorem dX1_valueAt_10 : decode cX1_valueAt 10 = .ok (.if_icmp .ge 12, 3) := by decide +kernel
theorem dX1_valueAt_13 : decode cX1_valueAt 13 = .ok (.aload_n 0, 1) := by decide +kernel
theorem dX1_valueAt_14 : decode cX1_valueAt 14 = .ok (.getfield 18, 3) := by decide +kernel
theorem dX1_valueAt_17 : decode cX1_valueAt 17 = .ok (.iload_n 1, 1) := by decide +kernel
theorem dX1_valueAt_18 : decode cX1_valueAt 18 = .ok (.iaload, 1) := by decide +kernel
theorem dX1_valueAt_19 : decode cX1_valueAt 19 = .ok (.goto 4, 3) := by decide +kernel
theorem dX1_valueAt_22 : decode cX1_valueAt 22 = .ok (.iconst 0, 1) := by decide +kernel
theorem dX1_valueAt_23 : decode cX1_valueAt 23 = .ok (.ireturn, 1) := by decide +kernel
theorem dX1_fileSizeAt_0 : decode cX1_fileSizeAt 0 = .ok (.aload_n 0, 1) := by decide +kernel
theorem dX1_fileSizeAt_1 : decode cX1_fileSizeAt 1 = .ok (.iload_n 1, 1) := by decide +kernel
theorem dX1_fileSizeAt_2 : decode cX1_fileSizeAt 2 = .ok (.invokevirtual 25, 3) := by decide +kernel
theorem dX1_fileSizeAt_5 : decode cX1_fileSizeAt 5 = .ok (.iconst 1, 1) := by decide +kernel
theorem dX1_fileSizeAt_6 : decode cX1_fileSizeAt 6 = .ok (.if_icmp .ne 11, 3) := by decide +kernel
theorem dX1_fileSizeAt_9 : decode cX1_fileSizeAt 9 = .ok (.aload_n 0, 1) := by decide +kernel
theorem dX1_fileSizeAt_10 : decode cX1_fileSizeAt 10 = .ok (.iload_n 1, 1) := by decide +kernel
theorem dX1_fileSizeAt_11 : decode cX1_fileSizeAt 11 = .ok (.invokevirtual 29, 3) := by decide +kernel
theorem dX1_fileSizeAt_14 : decode cX1_fileSizeAt 14 = .ok (.goto 4, 3) := by decide +kernel
theorem dX1_fileSizeAt_17 : decode cX1_fileSizeAt 17 = .ok (.iconst (-1), 1) := by decide +kernel
theorem dX1_fileSizeAt_18 : decode cX1_fileSizeAt 18 = .ok (.ireturn, 1) := by decide +kernel
theorem dX1_bytesAt_0 : decode cX1_bytesAt 0 = .ok (.aload_n 0, 1) := by decide +kernel
theorem dX1_bytesAt_1 : decode cX1_bytesAt 1 = .ok (.iload_n 1, 1) := by decide +kernel
theorem dX1_bytesAt_2 : decode cX1_bytesAt 2 = .ok (.invokevirtual 25, 3) := by decide +kernel
theorem dX1_bytesAt_5 : decode cX1_bytesAt 5 = .ok (.iconst 1, 1) := by decide +kernel
theorem dX1_bytesAt_6 : decode cX1_bytesAt 6 = .ok (.if_icmp .ne 11, 3) := by decide +kernel
theorem dX1_bytesAt_9 : decode cX1_bytesAt 9 = .ok (.aload_n 0, 1) := by decide +kernel
theorem dX1_bytesAt_10 : decode cX1_bytesAt 10 = .ok (.iload_n 1, 1) := by decide +kernel
theorem dX1_bytesAt_11 : decode cX1_bytesAt 11 = .ok (.invokevirtual 29, 3) := by decide +kernel
theorem dX1_bytesAt_14 : decode cX1_bytesAt 14 = .ok (.goto 4, 3) := by decide +kernel
theorem dX1_bytesAt_17 : decode cX1_bytesAt 17 = .ok (.iconst 0, 1) := by decide +kernel
theorem dX1_bytesAt_18 : decode cX1_bytesAt 18 = .ok (.ireturn, 1) := by decide +kernel
theorem dX1_bytesOfOwnerAt_0 : decode cX1_bytesOfOwnerAt 0 = .ok (.aload_n 0, 1) := by decide +kernel
theorem dX1_bytesOfOwnerAt_1 : decode cX1_bytesOfOwnerAt 1 = .ok (.iload_n 2, 1) := by decide +kernel
theorem dX1_bytesOfOwnerAt_2 : decode cX1_bytesOfOwnerAt 2 = .ok (.invokevirtual 32, 3) := by decide +kernel
theorem dX1_bytesOfOwnerAt_5 : decode cX1_bytesOfOwnerAt 5 = .ok (.iload_n 1, 1) := by decide +kernel
theorem dX1_bytesOfOwnerAt_6 : decode cX1_bytesOfOwnerAt 6 = .ok (.if_icmp .ne 11, 3) := by decide +kernel
theorem dX1_bytesOfOwnerAt_9 : decode cX1_bytesOfOwnerAt 9 = .ok (.aload_n 0, 1) := by decide +kernel
theorem dX1_bytesOfOwnerAt_10 : decode cX1_bytesOfOwnerAt 10 = .ok (.iload_n 2, 1) := by decide +kernel
theorem dX1_bytesOfOwnerAt_11 : decode cX1_bytesOfOwnerAt 11 = .ok (.invokevirtual 35, 3) := by decide +kernel
theorem dX1_bytesOfOwnerAt_14 : decode cX1_bytesOfOwnerAt 14 = .ok (.goto 4, 3) := by decide +kernel
theorem dX1_bytesOfOwnerAt_17 : decode cX1_bytesOfOwnerAt 17 = .ok (.iconst 0, 1) := by decide +kernel
theorem dX1_bytesOfOwnerAt_18 : decode cX1_bytesOfOwnerAt 18 = .ok (.ireturn, 1) := by decide +kernel
theorem dX1_put_0 : decode cX1_put 0 = .ok (.iload_n 1, 1) := by decide +kernel
theorem dX1_put_1 : decode cX1_put 1 = .ok (.invokestatic 38, 3) := by decide +kernel
theorem dX1_put_4 : decode cX1_put 4 = .ok (.ifCond .eq 25, 3) := by decide +kernel
theorem dX1_put_7 : decode cX1_put 7 = .ok (.aload_n 0, 1) := by decide +kernel
theorem dX1_put_8 : decode cX1_put 8 = .ok (.getfield 9, 3) := by decide +kernel
theorem dX1_put_11 : decode cX1_put 11 = .ok (.iload_n 1, 1) := by decide +kernel
theorem dX1_put_12 : decode cX1_put 12 = .ok (.iload_n 2, 1) := by decide +kernel
theorem dX1_put_13 : decode cX1_put 13 = .ok (.iastore, 1) := by decide +kernel
theorem dX1_put_14 : decode cX1_put 14 = .ok (.aload_n 0, 1) := by decide +kernel
theorem dX1_put_15 : decode cX1_put 15 = .ok (.getfield 15, 3) := by decide +kernel
theorem dX1_put_18 : decode cX1_put 18 = .ok (.iload_n 1, 1) := by decide +kernel
theorem dX1_put_19 : decode cX1_put 19 = .ok (.iload_n 3, 1) := by decide +kernel
theorem dX1_put_20 : decode cX1_put 20 = .ok (.iastore, 1) := by decide +kernel
theorem dX1_put_21 : decode cX1_put 21 = .ok (.aload_n 0, 1) := by decide +kernel
theorem dX1_put_22 : decode cX1_put 22 = .ok (.getfield 18, 3) := by decide +kernel
theorem dX1_put_25 : decode cX1_put 25 = .ok (.iload_n 1, 1) := by decide +kernel
theorem dX1_put_26 : decode cX1_put 26 = .ok (.iload 4, 2) := by decide +kernel
theorem dX1_put_28 : decode cX1_put 28 = .ok (.iastore, 1) := by decide +kernel
theorem dX1_put_29 : decode cX1_put 29 = .ok (.return_, 1) := by decide +kernel
theorem dX1_countOf_0 : decode cX1_countOf 0 = .ok (.iconst 0, 1) := by decide +kernel
theorem dX1_countOf_1 : decode cX1_countOf 1 = .ok (.istore_n 2, 1) := by decide +kernel
theorem dX1_countOf_2 : decode cX1_countOf 2 = .ok (.iconst 0, 1) := by decide +kernel
theorem dX1_countOf_3 : decode cX1_countOf 3 = .ok (.istore_n 3, 1) := by decide +kernel
theorem dX1_countOf_4 : decode cX1_countOf 4 = .ok (.iload_n 3, 1) := by decide +kernel
theorem dX1_countOf_5 : decode cX1_countOf 5 = .ok (.sipush 341, 3) := by decide +kernel
theorem dX1_countOf_8 : decode cX1_countOf 8 = .ok (.if_icmp .ge 22, 3) := by decide +kernel
theorem dX1_countOf_11 : decode cX1_countOf 11 = .ok (.aload_n 0, 1) := by decide +kernel
theorem dX1_countOf_12 : decode cX1_countOf 12 = .ok (.getfield 9, 3) := by decide +kernel
theorem dX1_countOf_15 : decode cX1_countOf 15 = .ok (.iload_n 3, 1) := by decide +kernel
theorem dX1_countOf_16 : decode cX1_countOf 16 = .ok (.iaload, 1) := by decide +kernel
theorem dX1_countOf_17 : decode cX1_countOf 17 = .ok (.iload_n 1, 1) := by decide +kernel
theorem dX1_countOf_18 : decode cX1_countOf 18 = .ok (.if_icmp .ne 6, 3) := by decide +kernel
theorem dX1_countOf_21 : decode cX1_countOf 21 = .ok (.iinc 2 1, 3) := by decide +kernel
theorem dX1_countOf_24 : decode cX1_countOf 24 = .ok (.iinc 3 1, 3) := by decide +kernel
theorem dX1_countOf_27 : decode cX1_countOf 27 = .ok (.goto (-23), 3) := by decide +kernel
theorem dX1_countOf_30 : decode cX1_countOf 30 = .ok (.iload_n 2, 1) := by decide +kernel
theorem dX1_countOf_31 : decode cX1_countOf 31 = .ok (.ireturn, 1) := by decide +kernel
theorem dX1_bytesOfOwner_0 : decode cX1_bytesOfOwner 0 = .ok (.iconst 0, 1) := by decide +kernel
theorem dX1_bytesOfOwner_1 : decode cX1_bytesOfOwner 1 = .ok (.istore_n 2, 1) := by decide +kernel
theorem dX1_bytesOfOwner_2 : decode cX1_bytesOfOwner 2 = .ok (.iconst 0, 1) := by decide +kernel
theorem dX1_bytesOfOwner_3 : decode cX1_bytesOfOwner 3 = .ok (.istore_n 3, 1) := by decide +kernel
theorem dX1_bytesOfOwner_4 : decode cX1_bytesOfOwner 4 = .ok (.iload_n 3, 1) := by decide +kernel
theorem dX1_bytesOfOwner_5 : decode cX1_bytesOfOwner 5 = .ok (.sipush 341, 3) := by decide +kernel
theorem dX1_bytesOfOwner_8 : decode cX1_bytesOfOwner 8 = .ok (.if_icmp .ge 18, 3) := by decide +kernel
theorem dX1_bytesOfOwner_11 : decode cX1_bytesOfOwner 11 = .ok (.iload_n 2, 1) := by decide +kernel
theorem dX1_bytesOfOwner_12 : decode cX1_bytesOfOwner 12 = .ok (.aload_n 0, 1) := by decide +kernel
theorem dX1_bytesOfOwner_13 : decode cX1_bytesOfOwner 13 = .ok (.iload_n 1, 1) := by decide +kernel
theorem dX1_bytesOfOwner_14 : decode cX1_bytesOfOwner 14 = .ok (.iload_n 3, 1) := by decide +kernel
theorem dX1_bytesOfOwner_15 : decode cX1_bytesOfOwner 15 = .ok (.invokevirtual 42, 3) := by decide +kernel
theorem dX1_bytesOfOwner_18 : decode cX1_bytesOfOwner 18 = .ok (.iadd, 1) := by decide +kernel
theorem dX1_bytesOfOwner_19 : decode cX1_bytesOfOwner 19 = .ok (.istore_n 2, 1) := by decide +kernel
theorem dX1_bytesOfOwner_20 : decode cX1_bytesOfOwner 20 = .ok (.iinc 3 1, 3) := by decide +kernel
theorem dX1_bytesOfOwner_23 : decode cX1_bytesOfOwner 23 = .ok (.goto (-19), 3) := by decide +kernel
theorem dX1_bytesOfOwner_26 : decode cX1_bytesOfOwner 26 = .ok (.iload_n 2, 1) := by decide +kernel
theorem dX1_bytesOfOwner_27 : decode cX1_bytesOfOwner 27 = .ok (.ireturn, 1) := by decide +kernel
theorem dX1_allBytesOfFiles_0 : decode cX1_allBytesOfFiles 0 = .ok (.iconst 0, 1) := by decide +kernel
theorem dX1_allBytesOfFiles_1 : decode cX1_allBytesOfFiles 1 = .ok (.istore_n 1, 1) := by decide +kernel
theorem dX1_allBytesOfFiles_2 : decode cX1_allBytesOfFiles 2 = .ok (.iconst 0, 1) := by decide +kernel
theorem dX1_allBytesOfFiles_3 : decode cX1_allBytesOfFiles 3 = .ok (.istore_n 2, 1) := by decide +kernel
theorem dX1_allBytesOfFiles_4 : decode cX1_allBytesOfFiles 4 = .ok (.iload_n 2, 1) := by decide +kernel
theorem dX1_allBytesOfFiles_5 : decode cX1_allBytesOfFiles 5 = .ok (.sipush 341, 3) := by decide +kernel
theorem dX1_allBytesOfFiles_8 : decode cX1_allBytesOfFiles 8 = .ok (.if_icmp .ge 17, 3) := by decide +kernel
theorem dX1_allBytesOfFiles_11 : decode cX1_allBytesOfFiles 11 = .ok (.iload_n 1, 1) := by decide +kernel
theorem dX1_allBytesOfFiles_12 : decode cX1_allBytesOfFiles 12 = .ok (.aload_n 0, 1) := by decide +kernel
theorem dX1_allBytesOfFiles_13 : decode cX1_allBytesOfFiles 13 = .ok (.iload_n 2, 1) := by decide +kernel
theorem dX1_allBytesOfFiles_14 : decode cX1_allBytesOfFiles 14 = .ok (.invokevirtual 35, 3) := by decide +kernel
theorem dX1_allBytesOfFiles_17 : decode cX1_allBytesOfFiles 17 = .ok (.iadd, 1) := by decide +kernel
theorem dX1_allBytesOfFiles_18 : decode cX1_allBytesOfFiles 18 = .ok (.istore_n 1, 1) := by decide +kernel
theorem dX1_allBytesOfFiles_19 : decode cX1_allBytesOfFiles 19 = .ok (.iinc 2 1, 3) := by decide +kernel
theorem dX1_allBytesOfFiles_22 : decode cX1_allBytesOfFiles 22 = .ok (.goto (-18), 3) := by decide +kernel
theorem dX1_allBytesOfFiles_25 : decode cX1_allBytesOfFiles 25 = .ok (.iload_n 1, 1) := by decide +kernel
theorem dX1_allBytesOfFiles_26 : decode cX1_allBytesOfFiles 26 = .ok (.ireturn, 1) := by decide +kernel
theorem dX1_forgetCounted_0 : decode cX1_forgetCounted 0 = .ok (.iconst 0, 1) := by decide +kernel
theorem dX1_forgetCounted_1 : decode cX1_forgetCounted 1 = .ok (.istore_n 1, 1) := by decide +kernel
theorem dX1_forgetCounted_2 : decode cX1_forgetCounted 2 = .ok (.iload_n 1, 1) := by decide +kernel
theorem dX1_forgetCounted_3 : decode cX1_forgetCounted 3 = .ok (.sipush 341, 3) := by decide +kernel
theorem dX1_forgetCounted_6 : decode cX1_forgetCounted 6 = .ok (.if_icmp .ge 16, 3) := by decide +kernel
theorem dX1_forgetCounted_9 : decode cX1_forgetCounted 9 = .ok (.aload_n 0, 1) := by decide +kernel
theorem dX1_forgetCounted_10 : decode cX1_forgetCounted 10 = .ok (.getfield 21, 3) := by decide +kernel
theorem dX1_forgetCounted_13 : decode cX1_forgetCounted 13 = .ok (.iload_n 1, 1) := by decide +kernel
theorem dX1_forgetCounted_14 : decode cX1_forgetCounted 14 = .ok (.iconst 0, 1) := by decide +kernel
theorem dX1_forgetCounted_15 : decode cX1_forgetCounted 15 = .ok (.bastore, 1) := by decide +kernel
theorem dX1_forgetCounted_16 : decode cX1_forgetCounted 16 = .ok (.iinc 1 1, 3) := by decide +kernel
theorem dX1_forgetCounted_19 : decode cX1_forgetCounted 19 = .ok (.goto (-17), 3) := by decide +kernel
theorem dX1_forgetCounted_22 : decode cX1_forgetCounted 22 = .ok (.return_, 1) := by decide +kernel
theorem dX1_bytesNotYetCounted_0 : decode cX1_bytesNotYetCounted 0 = .ok (.iload_n 1, 1) := by decide +kernel
theorem dX1_bytesNotYetCounted_1 : decode cX1_bytesNotYetCounted 1 = .ok (.invokestatic 38, 3) := by decide +kernel
theorem dX1_bytesNotYetCounted_4 : decode cX1_bytesNotYetCounted 4 = .ok (.ifCond .eq 12, 3) := by decide +kernel
theorem dX1_bytesNotYetCounted_7 : decode cX1_bytesNotYetCounted 7 = .ok (.aload_n 0, 1) := by decide +kernel
theorem dX1_bytesNotYetCounted_8 : decode cX1_bytesNotYetCounted 8 = .ok (.getfield 21, 3) := by decide +kernel
theorem dX1_bytesNotYetCounted_11 : decode cX1_bytesNotYetCounted 11 = .ok (.iload_n 1, 1) := by decide +kernel
theorem dX1_bytesNotYetCounted_12 : decode cX1_bytesNotYetCounted 12 = .ok (.baload, 1) := by decide +kernel
theorem dX1_bytesNotYetCounted_13 : decode cX1_bytesNotYetCounted 13 = .ok (.ifCond .eq 5, 3) := by decide +kernel
theorem dX1_bytesNotYetCounted_16 : decode cX1_bytesNotYetCounted 16 = .ok (.iconst 0, 1) := by decide +kernel
theorem dX1_bytesNotYetCounted_17 : decode cX1_bytesNotYetCounted 17 = .ok (.ireturn, 1) := by decide +kernel
theorem dX1_bytesNotYetCounted_18 : decode cX1_bytesNotYetCounted 18 = .ok (.aload_n 0, 1) := by decide +kernel
theorem dX1_bytesNotYetCounted_19 : decode cX1_bytesNotYetCounted 19 = .ok (.getfield 21, 3) := by decide +kernel
theorem dX1_bytesNotYetCounted_22 : decode cX1_bytesNotYetCounted 22 = .ok (.iload_n 1, 1) := by decide +kernel
theorem dX1_bytesNotYetCounted_23 : decode cX1_bytesNotYetCounted 23 = .ok (.iconst 1, 1) := by decide +kernel
theorem dX1_bytesNotYetCounted_24 : decode cX1_bytesNotYetCounted 24 = .ok (.bastore, 1) := by decide +kernel
theorem dX1_bytesNotYetCounted_25 : decode cX1_bytesNotYetCounted 25 = .ok (.aload_n 0, 1) := by decide +kernel
theorem dX1_bytesNotYetCounted_26 : decode cX1_bytesNotYetCounted 26 = .ok (.iload_n 1, 1) := by decide +kernel
theorem dX1_bytesNotYetCounted_27 : decode cX1_bytesNotYetCounted 27 = .ok (.invokevirtual 35, 3) := by decide +kernel
theorem dX1_bytesNotYetCounted_30 : decode cX1_bytesNotYetCounted 30 = .ok (.ireturn, 1) := by decide +kernel
theorem dX2_init_0 : decode cX2_init 0 = .ok (.aload_n 0, 1) := by decide +kernel
theorem dX2_init_1 : decode cX2_init 1 = .ok (.invokespecial 3, 3) := by decide +kernel
theorem dX2_init_4 : decode cX2_init 4 = .ok (.aload_n 0, 1) := by decide +kernel
theorem dX2_init_5 : decode cX2_init 5 = .ok (.iload_n 1, 1) := by decide +kernel
theorem dX2_init_6 : decode cX2_init 6 = .ok (.putfield 9, 3) := by decide +kernel
theorem dX2_init_9 : decode cX2_init 9 = .ok (.aload_n 0, 1) := by decide +kernel
theorem dX2_init_10 : decode cX2_init 10 = .ok (.iload_n 2, 1) := by decide +kernel
theorem dX2_init_11 : decode cX2_init 11 = .ok (.putfield 15, 3) := by decide +kernel
theorem dX2_init_14 : decode cX2_init 14 = .ok (.aload_n 0, 1) := by decide +kernel
theorem dX2_init_15 : decode cX2_init 15 = .ok (.iload_n 3, 1) := by decide +kernel
theorem dX2_init_16 : decode cX2_init 16 = .ok (.putfield 18, 3) := by decide +kernel
theorem dX2_init_19 : decode cX2_init 19 = .ok (.aload_n 0, 1) := by decide +kernel
theorem dX2_init_20 : decode cX2_init 20 = .ok (.iconst 1, 1) := by decide +kernel
theorem dX2_init_21 : decode cX2_init 21 = .ok (.putfield 21, 3) := by decide +kernel
theorem dX2_init_24 : decode cX2_init 24 = .ok (.return_, 1) := by decide +kernel
theorem dX2_written_0 : decode cX2_written 0 = .ok (.aload_n 0, 1) := by decide +kernel
theorem dX2_written_1 : decode cX2_written 1 = .ok (.getfield 18, 3) := by decide +kernel
theorem dX2_written_4 : decode cX2_written 4 = .ok (.iconst (-1), 1) := by decide +kernel
theorem dX2_written_5 : decode cX2_written 5 = .ok (.if_icmp .ne 10, 3) := by decide +kernel
theorem dX2_written_8 : decode cX2_written 8 = .ok (.aload_n 0, 1) := by decide +kernel
theorem dX2_written_9 : decode cX2_written 9 = .ok (.getfield 15, 3) := by decide +kernel
theorem dX2_written_12 : decode cX2_written 12 = .ok (.goto 7, 3) := by decide +kernel
theorem dX2_written_15 : decode cX2_written 15 = .ok (.aload_n 0, 1) := by decide +kernel
theorem dX2_written_16 : decode cX2_written 16 = .ok (.getfield 18, 3) := by decide +kernel
theorem dX2_written_19 : decode cX2_written 19 = .ok (.ireturn, 1) := by decide +kernel
theorem dX3_init_0 : decode cX3_init 0 = .ok (.aload_n 0, 1) := by decide +kernel
theorem dX3_init_1 : decode cX3_init 1 = .ok (.invokespecial 1, 3) := by decide +kernel
theorem dX3_init_4 : decode cX3_init 4 = .ok (.aload_n 0, 1) := by decide +kernel
theorem dX3_init_5 : decode cX3_init 5 = .ok (.bipush 6, 2) := by decide +kernel
theorem dX3_init_7 : decode cX3_init 7 = .ok (.anewarray 9, 3) := by decide +kernel
theorem dX3_init_10 : decode cX3_init 10 = .ok (.putfield 11, 3) := by decide +kernel
theorem dX3_init_13 : decode cX3_init 13 = .ok (.aload_n 0, 1) := by decide +kernel
theorem dX3_init_14 : decode cX3_init 14 = .ok (.bipush 8, 2) := by decide +kernel
theorem dX3_init_16 : decode cX3_init 16 = .ok (.anewarray 15, 3) := by decide +kernel
theorem dX3_init_19 : decode cX3_init 19 = .ok (.putfield 17, 3) := by decide +kernel
theorem dX3_init_22 : decode cX3_init 22 = .ok (.aload_n 0, 1) := by decide +kernel
theorem dX3_init_23 : decode cX3_init 23 = .ok (.bipush 6, 2) := by decide +kernel
theorem dX3_init_25 : decode cX3_init 25 = .ok (.anewarray 21, 3) := by decide +kernel
theorem dX3_init_28 : decode cX3_init 28 = .ok (.putfield 23, 3) := by decide +kernel
theorem dX3_init_31 : decode cX3_init 31 = .ok (.aload_n 0, 1) := by decide +kernel
theorem dX3_init_32 : decode cX3_init 32 = .ok (.iconst 4, 1) := by decide +kernel
theorem dX3_init_33 : decode cX3_init 33 = .ok (.newarray .int, 2) := by decide +kernel
theorem dX3_init_35 : decode cX3_init 35 = .ok (.putfield 27, 3) := by decide +kernel
theorem dX3_init_38 : decode cX3_init 38 = .ok (.aload_n 0, 1) := by decide +kernel
theorem dX3_init_39 : decode cX3_init 39 = .ok (.iconst 4, 1) := by decide +kernel
theorem dX3_init_40 : decode cX3_init 40 = .ok (.newarray .int, 2) := by decide +kernel
theorem dX3_init_42 : decode cX3_init 42 = .ok (.putfield 31, 3) := by decide +kernel
theorem dX3_init_45 : decode cX3_init 45 = .ok (.aload_n 0, 1) := by decide +kernel
theorem dX3_init_46 : decode cX3_init 46 = .ok (.sipush 341, 3) := by decide +kernel
theorem dX3_init_49 : decode cX3_init 49 = .ok (.newarray .int, 2) := by decide +kernel
theorem dX3_init_51 : decode cX3_init 51 = .ok (.putfield 34, 3) := by decide +kernel
theorem dX3_init_54 : decode cX3_init 54 = .ok (.aload_n 0, 1) := by decide +kernel
theorem dX3_init_55 : decode cX3_init 55 = .ok (.sipush 341, 3) := by decide +kernel
theorem dX3_init_58 : decode cX3_init 58 = .ok (.newarray .int, 2) := by decide +kernel
theorem dX3_init_60 : decode cX3_init 60 = .ok (.putfield 37, 3) := by decide +kernel
theorem dX3_init_63 : decode cX3_init 63 = .ok (.iconst 0, 1) := by decide +kernel
theorem dX3_init_64 : decode cX3_init 64 = .ok (.istore_n 1, 1) := by decide +kernel
theorem dX3_init_65 : decode cX3_init 65 = .ok (.iload_n 1, 1) := by decide +kernel
theorem dX3_init_66 : decode cX3_init 66 = .ok (.iconst 4, 1) := by decide +kernel
theorem dX3_init_67 : decode cX3_init 67 = .ok (.if_icmp .ge 18, 3) := by decide +kernel
theorem dX3_init_70 : decode cX3_init 70 = .ok (.aload_n 0, 1) := by decide +kernel
theorem dX3_init_71 : decode cX3_init 71 = .ok (.getfield 31, 3) := by decide +kernel
theorem dX3_init_74 : decode cX3_init 74 = .ok (.iload_n 1, 1) := by decide +kernel
theorem dX3_init_75 : decode cX3_init 75 = .ok (.sipush 20000, 3) := by decide +kernel
theorem dX3_init_78 : decode cX3_init 78 = .ok (.iastore, 1) := by decide +kernel
theorem dX3_init_79 : decode cX3_init 79 = .ok (.iinc 1 1, 3) := by decide +kernel
theorem dX3_init_82 : decode cX3_init 82 = .ok (.goto (-17), 3) := by decide +kernel
theorem dX3_init_85 : decode cX3_init 85 = .ok (.iconst 0, 1) := by decide +kernel
theorem dX3_init_86 : decode cX3_init 86 = .ok (.istore_n 1, 1) := by decide +kernel
theorem dX3_init_87 : decode cX3_init 87 = .ok (.iload_n 1, 1) := by decide +kernel
theorem dX3_init_88 : decode cX3_init 88 = .ok (.sipush 341, 3) := by decide +kernel
theorem dX3_init_91 : decode cX3_init 91 = .ok (.if_icmp .ge 16, 3) := by decide +kernel
theorem dX3_init_94 : decode cX3_init 94 = .ok (.aload_n 0, 1) := by decide +kernel
theorem dX3_init_95 : decode cX3_init 95 = .ok (.getfield 34, 3) := by decide +kernel
theorem dX3_init_98 : decode cX3_init 98 = .ok (.iload_n 1, 1) := by decide +kernel
theorem dX3_init_99 : decode cX3_init 99 = .ok (.iconst (-1), 1) := by decide +kernel
theorem dX3_init_100 : decode cX3_init 100 = .ok (.iastore, 1) := by decide +kernel
theorem dX3_init_101 : decode cX3_init 101 = .ok (.iinc 1 1, 3) := by decide +kernel
theorem dX3_init_104 : decode cX3_init 104 = .ok (.goto (-17), 3) := by decide +kernel
theorem dX3_init_107 : decode cX3_init 107 = .ok (.return_, 1) := by decide +kernel
theorem dX3_addLayer_0 : decode cX3_addLayer 0 = .ok (.aload_n 0, 1) := by decide +kernel
theorem dX3_addLayer_1 : decode cX3_addLayer 1 = .ok (.getfield 40, 3) := by decide +kernel
theorem dX3_addLayer_4 : decode cX3_addLayer 4 = .ok (.ifCond .lt 15, 3) := by decide +kernel
theorem dX3_addLayer_7 : decode cX3_addLayer 7 = .ok (.aload_n 0, 1) := by decide +kernel
theorem dX3_addLayer_8 : decode cX3_addLayer 8 = .ok (.getfield 40, 3) := by decide +kernel
theorem dX3_addLayer_11 : decode cX3_addLayer 11 = .ok (.aload_n 0, 1) := by decide +kernel
theorem dX3_addLayer_12 : decode cX3_addLayer 12 = .ok (.getfield 11, 3) := by decide +kernel
theorem dX3_addLayer_15 : decode cX3_addLayer 15 = .ok (.arraylength, 1) := by decide +kernel
theorem dX3_addLayer_16 : decode cX3_addLayer 16 = .ok (.if_icmp .lt 13, 3) := by decide +kernel
theorem dX3_addLayer_19 : decode cX3_addLayer 19 = .ok (.new 44, 3) := by decide +kernel
theorem dX3_addLayer_22 : decode cX3_addLayer 22 = .ok (.dup, 1) := by decide +kernel
theorem dX3_addLayer_23 : decode cX3_addLayer 23 = .ok (.ldc 46, 2) := by decide +kernel
theorem dX3_addLayer_25 : decode cX3_addLayer 25 = .ok (.invokespecial 48, 3) := by decide +kernel
theorem dX3_addLayer_28 : decode cX3_addLayer 28 = .ok (.athrow, 1) := by decide +kernel
theorem dX3_addLayer_29 : decode cX3_addLayer 29 = .ok (.aload_n 0, 1) := by decide +kernel
theorem dX3_addLayer_30 : decode cX3_addLayer 30 = .ok (.getfield 40, 3) := by decide +kernel
theorem dX3_addLayer_33 : decode cX3_addLayer 33 = .ok (.istore_n 1, 1) := by decide +kernel
theorem dX3_addLayer_34 : decode cX3_addLayer 34 = .ok (.aload_n 0, 1) := by decide +kernel
theorem dX3_addLayer_35 : decode cX3_addLayer 35 = .ok (.getfield 11, 3) := by decide +kernel
theorem dX3_addLayer_38 : decode cX3_addLayer 38 = .ok (.iload_n 1, 1) := by decide +kernel
theorem dX3_addLayer_39 : decode cX3_addLayer 39 = .ok (.new 9, 3) := by decide +kernel
theorem dX3_addLayer_42 : decode cX3_addLayer 42 = .ok (.dup, 1) := by decide +kernel
theorem dX3_addLayer_43 : decode cX3_addLayer 43 = .ok (.invokespecial 51, 3) := by decide +kernel
theorem dX3_addLayer_46 : decode cX3_addLayer 46 = .ok (.aastore, 1) := by decide +kernel
theorem dX3_addLayer_47 : decode cX3_addLayer 47 = .ok (.aload_n 0, 1) := by decide +kernel
theorem dX3_addLayer_48 : decode cX3_addLayer 48 = .ok (.dup, 1) := by decide +kernel
theorem dX3_addLayer_49 : decode cX3_addLayer 49 = .ok (.getfield 40, 3) := by decide +kernel
theorem dX3_addLayer_52 : decode cX3_addLayer 52 = .ok (.iconst 1, 1) := by decide +kernel
theorem dX3_addLayer_53 : decode cX3_addLayer 53 = .ok (.iadd, 1) := by decide +kernel
theorem dX3_addLayer_54 : decode cX3_addLayer 54 = .ok (.putfield 40, 3) := by decide +kernel
theorem dX3_addLayer_57 : decode cX3_addLayer 57 = .ok (.iload_n 1, 1) := by decide +kernel
theorem dX3_addLayer_58 : decode cX3_addLayer 58 = .ok (.ireturn, 1) := by decide +kernel
theorem dX3_mount_0 : decode cX3_mount 0 = .ok (.iload_n 3, 1) := by decide +kernel
theorem dX3_mount_1 : decode cX3_mount 1 = .ok (.iconst (-1), 1) := by decide +kernel
theorem dX3_mount_2 : decode cX3_mount 2 = .ok (.if_icmp .eq 7, 3) := by decide +kernel
theorem dX3_mount_5 : decode cX3_mount 5 = .ok (.iconst 1, 1) := by decide +kernel
theorem dX3_mount_6 : decode cX3_mount 6 = .ok (.goto 4, 3) := by decide +kernel
theorem dX3_mount_9 : decode cX3_mount 9 = .ok (.iconst 0, 1) := by decide +kernel
theorem dX3_mount_10 : decode cX3_mount 10 = .ok (.istore 4, 2) := by decide +kernel
theorem dX3_mount_12 : decode cX3_mount 12 = .ok (.iload_n 1, 1) := by decide +kernel
theorem dX3_mount_13 : decode cX3_mount 13 = .ok (.invokestatic 52, 3) := by decide +kernel
theorem dX3_mount_16 : decode cX3_mount 16 = .ok (.iconst (-1), 1) := by decide +kernel
theorem dX3_mount_17 : decode cX3_mount 17 = .ok (.if_icmp .eq 13, 3) := by decide +kernel
theorem dX3_mount_20 : decode cX3_mount 20 = .ok (.iload 4, 2) := by decide +kernel
theorem dX3_mount_22 : decode cX3_mount 22 = .ok (.ifCond .eq 18, 3) := by decide +kernel
theorem dX3_mount_25 : decode cX3_mount 25 = .ok (.iload_n 2, 1) := by decide +kernel
theorem dX3_mount_26 : decode cX3_mount 26 = .ok (.iload_n 3, 1) := by decide +kernel
theorem dX3_mount_27 : decode cX3_mount 27 = .ok (.if_icmp .ne 13, 3) := by decide +kernel
theorem dX3_mount_30 : decode cX3_mount 30 = .ok (.new 56, 3) := by decide +kernel
theorem dX3_mount_33 : decode cX3_mount 33 = .ok (.dup, 1) := by decide +kernel
theorem dX3_mount_34 : decode cX3_mount 34 = .ok (.ldc 58, 2) := by decide +kernel
theorem dX3_mount_36 : decode cX3_mount 36 = .ok (.invokespecial 60, 3) := by decide +kernel
theorem dX3_mount_39 : decode cX3_mount 39 = .ok (.athrow, 1) := by decide +kernel
theorem dX3_mount_40 : decode cX3_mount 40 = .ok (.aload_n 0, 1) := by decide +kernel
theorem dX3_mount_41 : decode cX3_mount 41 = .ok (.iload_n 2, 1) := by decide +kernel
theorem dX3_mount_42 : decode cX3_mount 42 = .ok (.invokevirtual 61, 3) := by decide +kernel
theorem dX3_mount_45 : decode cX3_mount 45 = .ok (.ifnull 16, 3) := by decide +kernel
theorem dX3_mount_48 : decode cX3_mount 48 = .ok (.iload 4, 2) := by decide +kernel
theorem dX3_mount_50 : decode cX3_mount 50 = .ok (.ifCond .eq 21, 3) := by decide +kernel
theorem dX3_mount_53 : decode cX3_mount 53 = .ok (.aload_n 0, 1) := by decide +kernel
theorem dX3_mount_54 : decode cX3_mount 54 = .ok (.iload_n 3, 1) := by decide +kernel
theorem dX3_mount_55 : decode cX3_mount 55 = .ok (.invokevirtual 61, 3) := by decide +kernel
theorem dX3_mount_58 : decode cX3_mount 58 = .ok (.ifnonnull 13, 3) := by decide +kernel
theorem dX3_mount_61 : decode cX3_mount 61 = .ok (.new 65, 3) := by decide +kernel
theorem dX3_mount_64 : decode cX3_mount 64 = .ok (.dup, 1) := by decide +kernel
theorem dX3_mount_65 : decode cX3_mount 65 = .ok (.ldc 67, 2) := by decide +kernel
theorem dX3_mount_67 : decode cX3_mount 67 = .ok (.invokespecial 69, 3) := by decide +kernel
theorem dX3_mount_70 : decode cX3_mount 70 = .ok (.athrow, 1) := by decide +kernel
theorem dX3_mount_71 : decode cX3_mount 71 = .ok (.aload_n 0, 1) := by decide +kernel
theorem dX3_mount_72 : decode cX3_mount 72 = .ok (.iload_n 2, 1) := by decide +kernel
theorem dX3_mount_73 : decode cX3_mount 73 = .ok (.invokevirtual 70, 3) := by decide +kernel
theorem dX3_mount_76 : decode cX3_mount 76 = .ok (.ifCond .ne 16, 3) := by decide +kernel
theorem dX3_mount_79 : decode cX3_mount 79 = .ok (.iload 4, 2) := by decide +kernel
theorem dX3_mount_81 : decode cX3_mount 81 = .ok (.ifCond .eq 21, 3) := by decide +kernel
theorem dX3_mount_84 : decode cX3_mount 84 = .ok (.aload_n 0, 1) := by decide +kernel
theorem dX3_mount_85 : decode cX3_mount 85 = .ok (.iload_n 3, 1) := by decide +kernel
theorem dX3_mount_86 : decode cX3_mount 86 = .ok (.invokevirtual 74, 3) := by decide +kernel
theorem dX3_mount_89 : decode cX3_mount 89 = .ok (.ifCond .eq 13, 3) := by decide +kernel
theorem dX3_mount_92 : decode cX3_mount 92 = .ok (.new 77, 3) := by decide +kernel
theorem dX3_mount_95 : decode cX3_mount 95 = .ok (.dup, 1) := by decide +kernel
theorem dX3_mount_96 : decode cX3_mount 96 = .ok (.ldc 79, 2) := by decide +kernel
theorem dX3_mount_98 : decode cX3_mount 98 = .ok (.invokespecial 81, 3) := by decide +kernel
theorem dX3_mount_101 : decode cX3_mount 101 = .ok (.athrow, 1) := by decide +kernel
theorem dX3_mount_102 : decode cX3_mount 102 = .ok (.aload_n 0, 1) := by decide +kernel
theorem dX3_mount_103 : decode cX3_mount 103 = .ok (.getfield 82, 3) := by decide +kernel
theorem dX3_mount_106 : decode cX3_mount 106 = .ok (.ifCond .lt 15, 3) := by decide +kernel
theorem dX3_mount_109 : decode cX3_mount 109 = .ok (.aload_n 0, 1) := by decide +kernel
theorem dX3_mount_110 : decode cX3_mount 110 = .ok (.getfield 82, 3) := by decide +kernel
theorem dX3_mount_113 : decode cX3_mount 113 = .ok (.aload_n 0, 1) := by decide +kernel
theorem dX3_mount_114 : decode cX3_mount 114 = .ok (.getfield 17, 3) := by decide +kernel
theorem dX3_mount_117 : decode cX3_mount 117 = .ok (.arraylength, 1) := by decide +kernel
theorem dX3_mount_118 : decode cX3_mount 118 = .ok (.if_icmp .lt 13, 3) := by decide +kernel
theorem dX3_mount_121 : decode cX3_mount 121 = .ok (.new 44, 3) := by decide +kernel
theorem dX3_mount_124 : decode cX3_mount 124 = .ok (.dup, 1) := by decide +kernel
theorem dX3_mount_125 : decode cX3_mount 125 = .ok (.ldc 85, 2) := by decide +kernel
theorem dX3_mount_127 : decode cX3_mount 127 = .ok (.invokespecial 48, 3) := by decide +kernel
theorem dX3_mount_130 : decode cX3_mount 130 = .ok (.athrow, 1) := by decide +kernel
theorem dX3_mount_131 : decode cX3_mount 131 = .ok (.aload_n 0, 1) := by decide +kernel
theorem dX3_mount_132 : decode cX3_mount 132 = .ok (.getfield 82, 3) := by decide +kernel
theorem dX3_mount_135 : decode cX3_mount 135 = .ok (.istore 5, 2) := by decide +kernel
theorem dX3_mount_137 : decode cX3_mount 137 = .ok (.aload_n 0, 1) := by decide +kernel
theorem dX3_mount_138 : decode cX3_mount 138 = .ok (.getfield 17, 3) := by decide +kernel
theorem dX3_mount_141 : decode cX3_mount 141 = .ok (.iload 5, 2) := by decide +kernel
theorem dX3_mount_143 : decode cX3_mount 143 = .ok (.new 15, 3) := by decide +kernel
theorem dX3_mount_146 : decode cX3_mount 146 = .ok (.dup, 1) := by decide +kernel
theorem dX3_mount_147 : decode cX3_mount 147 = .ok (.iload_n 1, 1) := by decide +kernel
theorem dX3_mount_148 : decode cX3_mount 148 = .ok (.iload_n 2, 1) := by decide +kernel
theorem dX3_mount_149 : decode cX3_mount 149 = .ok (.iload_n 3, 1) := by decide +kernel
theorem dX3_mount_150 : decode cX3_mount 150 = .ok (.invokespecial 87, 3) := by decide +kernel
theorem dX3_mount_153 : decode cX3_mount 153 = .ok (.aastore, 1) := by decide +kernel
theorem dX3_mount_154 : decode cX3_mount 154 = .ok (.aload_n 0, 1) := by decide +kernel
theorem dX3_mount_155 : decode cX3_mount 155 = .ok (.dup, 1) := by decide +kernel
theorem dX3_mount_156 : decode cX3_mount 156 = .ok (.getfield 82, 3) := by decide +kernel
theorem dX3_mount_159 : decode cX3_mount 159 = .ok (.iconst 1, 1) := by decide +kernel
theorem dX3_mount_160 : decode cX3_mount 160 = .ok (.iadd, 1) := by decide +kernel
theorem dX3_mount_161 : decode cX3_mount 161 = .ok (.putfield 82, 3) := by decide +kernel
theorem dX3_mount_164 : decode cX3_mount 164 = .ok (.aload_n 0, 1) := by decide +kernel
theorem dX3_mount_165 : decode cX3_mount 165 = .ok (.invokevirtual 90, 3) := by decide +kernel
theorem dX3_mount_168 : decode cX3_mount 168 = .ok (.iload 5, 2) := by decide +kernel
theorem dX3_mount_170 : decode cX3_mount 170 = .ok (.ireturn, 1) := by decide +kernel
theorem dX3_unmount_0 : decode cX3_unmount 0 = .ok (.aload_n 0, 1) := by decide +kernel
theorem dX3_unmount_1 : decode cX3_unmount 1 = .ok (.iload_n 1, 1) := by decide +kernel
theorem dX3_unmount_2 : decode cX3_unmount 2 = .ok (.invokevirtual 93, 3) := by decide +kernel
theorem dX3_unmount_5 : decode cX3_unmount 5 = .ok (.iconst 0, 1) := by decide +kernel
theorem dX3_unmount_6 : decode cX3_unmount 6 = .ok (.putfield 97, 3) := by decide +kernel
theorem dX3_unmount_9 : decode cX3_unmount 9 = .ok (.aload_n 0, 1) := by decide +kernel
theorem dX3_unmount_10 : decode cX3_unmount 10 = .ok (.invokevirtual 90, 3) := by decide +kernel
theorem dX3_unmount_13 : decode cX3_unmount 13 = .ok (.iconst 0, 1) := by decide +kernel
theorem dX3_unmount_14 : decode cX3_unmount 14 = .ok (.istore_n 2, 1) := by decide +kernel
theorem dX3_unmount_15 : decode cX3_unmount 15 = .ok (.iconst 0, 1) := by decide +kernel
theorem dX3_unmount_16 : decode cX3_unmount 16 = .ok (.istore_n 3, 1) := by decide +kernel
theorem dX3_unmount_17 : decode cX3_unmount 17 = .ok (.iload_n 3, 1) := by decide +kernel
theorem dX3_unmount_18 : decode cX3_unmount 18 = .ok (.aload_n 0, 1) := by decide +kernel
theorem dX3_unmount_19 : decode cX3_unmount 19 = .ok (.getfield 82, 3) := by decide +kernel
theorem dX3_unmount_22 : decode cX3_unmount 22 = .ok (.if_icmp .ge 20, 3) := by decide +kernel
theorem dX3_unmount_25 : decode cX3_unmount 25 = .ok (.aload_n 0, 1) := by decide +kernel
theorem dX3_unmount_26 : decode cX3_unmount 26 = .ok (.iload_n 3, 1) := by decide +kernel
theorem dX3_unmount_27 : decode cX3_unmount 27 = .ok (.invokevirtual 101, 3) := by decide +kernel
theorem dX3_unmount_30 : decode cX3_unmount 30 = .ok (.ifnull 6, 3) := by decide +kernel
theorem dX3_unmount_33 : decode cX3_unmount 33 = .ok (.iinc 2 1, 3) := by decide +kernel
theorem dX3_unmount_36 : decode cX3_unmount 36 = .ok (.iinc 3 1, 3) := by decide +kernel
theorem dX3_unmount_39 : decode cX3_unmount 39 = .ok (.goto (-22), 3) := by decide +kernel
theorem dX3_unmount_42 : decode cX3_unmount 42 = .ok (.iload_n 2, 1) := by decide +kernel
theorem dX3_unmount_43 : decode cX3_unmount 43 = .ok (.ireturn, 1) := by decide +kernel
theorem dX3_move_0 : decode cX3_move 0 = .ok (.aload_n 0, 1) := by decide +kernel
theorem dX3_move_1 : decode cX3_move 1 = .ok (.iload_n 1, 1) := by decide +kernel
theorem dX3_move_2 : decode cX3_move 2 = .ok (.invokevirtual 93, 3) := by decide +kernel
theorem dX3_move_5 : decode cX3_move 5 = .ok (.astore_n 3, 1) := by decide +kernel
theorem dX3_move_6 : decode cX3_move 6 = .ok (.iload_n 2, 1) := by decide +kernel
theorem dX3_move_7 : decode cX3_move 7 = .ok (.invokestatic 104, 3) := by decide +kernel
theorem dX3_move_10 : decode cX3_move 10 = .ok (.pop, 1) := by decide +kernel
theorem dX3_move_11 : decode cX3_move 11 = .ok (.aload_n 3, 1) := by decide +kernel
theorem dX3_move_12 : decode cX3_move 12 = .ok (.getfield 107, 3) := by decide +kernel
theorem dX3_move_15 : decode cX3_move 15 = .ok (.istore 4, 2) := by decide +kernel
theorem dX3_move_17 : decode cX3_move 17 = .ok (.aload_n 3, 1) := by decide +kernel
theorem dX3_move_18 : decode cX3_move 18 = .ok (.iload_n 2, 1) := by decide +kernel
theorem dX3_move_19 : decode cX3_move 19 = .ok (.putfield 107, 3) := by decide +kernel
theorem dX3_move_22 : decode cX3_move 22 = .ok (.aload_n 0, 1) := by decide +kernel
theorem dX3_move_23 : decode cX3_move 23 = .ok (.invokevirtual 90, 3) := by decide +kernel
theorem dX3_move_26 : decode cX3_move 26 = .ok (.iload 4, 2) := by decide +kernel
theorem dX3_move_28 : decode cX3_move 28 = .ok (.ireturn, 1) := by decide +kernel
theorem dX3_setCrossing_0 : decode cX3_setCrossing 0 = .ok (.aload_n 0, 1) := by decide +kernel
theorem dX3_setCrossing_1 : decode cX3_setCrossing 1 = .ok (.iload_n 1, 1) := by decide +kernel
theorem dX3_setCrossing_2 : decode cX3_setCrossing 2 = .ok (.invokevirtual 93, 3) := by decide +kernel
theorem dX3_setCrossing_5 : decode cX3_setCrossing 5 = .ok (.astore_n 3, 1) := by decide +kernel
theorem dX3_setCrossing_6 : decode cX3_setCrossing 6 = .ok (.aload_n 3, 1) := by decide +kernel
theorem dX3_setCrossing_7 : decode cX3_setCrossing 7 = .ok (.getfield 110, 3) := by decide +kernel
theorem dX3_setCrossing_10 : decode cX3_setCrossing 10 = .ok (.istore 4, 2) := by decide +kernel
theorem dX3_setCrossing_12 : decode cX3_setCrossing 12 = .ok (.aload_n 3, 1) := by decide +kernel
theorem dX3_setCrossing_13 : decode cX3_setCrossing 13 = .ok (.iload_n 2, 1) := by decide +kernel
theorem dX3_setCrossing_14 : decode cX3_setCrossing 14 = .ok (.putfield 110, 3) := by decide +kernel
theorem dX3_setCrossing_17 : decode cX3_setCrossing 17 = .ok (.iload 4, 2) := by decide +kernel
theorem dX3_setCrossing_19 : decode cX3_setCrossing 19 = .ok (.ireturn, 1) := by decide +kernel
theorem dX3_served_0 : decode cX3_served 0 = .ok (.aload_n 0, 1) := by decide +kernel
theorem dX3_served_1 : decode cX3_served 1 = .ok (.iload_n 1, 1) := by decide +kernel
theorem dX3_served_2 : decode cX3_served 2 = .ok (.invokestatic 104, 3) := by decide +kernel
theorem dX3_served_5 : decode cX3_served 5 = .ok (.invokevirtual 113, 3) := by decide +kernel
theorem dX3_served_8 : decode cX3_served 8 = .ok (.istore_n 2, 1) := by decide +kernel
theorem dX3_served_9 : decode cX3_served 9 = .ok (.iload_n 2, 1) := by decide +kernel
theorem dX3_served_10 : decode cX3_served 10 = .ok (.iconst (-1), 1) := by decide +kernel
theorem dX3_served_11 : decode cX3_served 11 = .ok (.if_icmp .ne 13, 3) := by decide +kernel
theorem dX3_served_14 : decode cX3_served 14 = .ok (.new 116, 3) := by decide +kernel
theorem dX3_served_17 : decode cX3_served 17 = .ok (.dup, 1) := by decide +kernel
theorem dX3_served_18 : decode cX3_served 18 = .ok (.ldc 118, 2) := by decide +kernel
theorem dX3_served_20 : decode cX3_served 20 = .ok (.invokespecial 120, 3) := by decide +kernel
theorem dX3_served_23 : decode cX3_served 23 = .ok (.athrow, 1) := by decide +kernel
theorem dX3_served_24 : decode cX3_served 24 = .ok (.iload_n 2, 1) := by decide +kernel
theorem dX3_served_25 : decode cX3_served 25 = .ok (.ireturn, 1) := by decide +kernel
theorem dX3_covered_0 : decode cX3_covered 0 = .ok (.iconst 0, 1) := by decide +kernel
theorem dX3_covered_1 : decode cX3_covered 1 = .ok (.istore_n 1, 1) := by decide +kernel
theorem dX3_covered_2 : decode cX3_covered 2 = .ok (.iconst 0, 1) := by decide +kernel
theorem dX3_covered_3 : decode cX3_covered 3 = .ok (.istore_n 2, 1) := by decide +kernel
theorem dX3_covered_4 : decode cX3_covered 4 = .ok (.iload_n 2, 1) := by decide +kernel
theorem dX3_covered_5 : decode cX3_covered 5 = .ok (.aload_n 0, 1) := by decide +kernel
theorem dX3_covered_6 : decode cX3_covered 6 = .ok (.getfield 82, 3) := by decide +kernel
theorem dX3_covered_9 : decode cX3_covered 9 = .ok (.if_icmp .ge 37, 3) := by decide +kernel
theorem dX3_covered_12 : decode cX3_covered 12 = .ok (.aload_n 0, 1) := by decide +kernel
theorem dX3_covered_13 : decode cX3_covered 13 = .ok (.iload_n 2, 1) := by decide +kernel
theorem dX3_covered_14 : decode cX3_covered 14 = .ok (.invokevirtual 101, 3) := by decide +kernel
theorem dX3_covered_17 : decode cX3_covered 17 = .ok (.astore_n 3, 1) := by decide +kernel
theorem dX3_covered_18 : decode cX3_covered 18 = .ok (.aload_n 3, 1) := by decide +kernel
theorem dX3_covered_19 : decode cX3_covered 19 = .ok (.ifnull 21, 3) := by decide +kernel
theorem dX3_covered_22 : decode cX3_covered 22 = .ok (.aload_n 0, 1) := by decide +kernel
theorem dX3_covered_23 : decode cX3_covered 23 = .ok (.aload_n 3, 1) := by decide +kernel
theorem dX3_covered_24 : decode cX3_covered 24 = .ok (.getfield 107, 3) := by decide +kernel
theorem dX3_covered_27 : decode cX3_covered 27 = .ok (.invokestatic 52, 3) := by decide +kernel
theorem dX3_covered_30 : decode cX3_covered 30 = .ok (.invokevirtual 113, 3) := by decide +kernel
theorem dX3_covered_33 : decode cX3_covered 33 = .ok (.iload_n 2, 1) := by decide +kernel
theorem dX3_covered_34 : decode cX3_covered 34 = .ok (.if_icmp .eq 6, 3) := by decide +kernel
theorem dX3_covered_37 : decode cX3_covered 37 = .ok (.iinc 1 1, 3) := by decide +kernel
theorem dX3_covered_40 : decode cX3_covered 40 = .ok (.iinc 2 1, 3) := by decide +kernel
theorem dX3_covered_43 : decode cX3_covered 43 = .ok (.goto (-39), 3) := by decide +kernel
theorem dX3_covered_46 : decode cX3_covered 46 = .ok (.iload_n 1, 1) := by decide +kernel
theorem dX3_covered_47 : decode cX3_covered 47 = .ok (.ireturn, 1) := by decide +kernel
theorem dX3_write_0 : decode cX3_write 0 = .ok (.iload_n 1, 1) := by decide +kernel
theorem dX3_write_1 : decode cX3_write 1 = .ok (.invokestatic 121, 3) := by decide +kernel
theorem dX3_write_4 : decode cX3_write 4 = .ok (.iload_n 3, 1) := by decide +kernel
theorem dX3_write_5 : decode cX3_write 5 = .ok (.ifCond .lt 10, 3) := by decide +kernel
theorem dX3_write_8 : decode cX3_write 8 = .ok (.iload_n 3, 1) := by decide +kernel
theorem dX3_write_9 : decode cX3_write 9 = .ok (.sipush 9999, 3) := by decide +kernel
theorem dX3_write_12 : decode cX3_write 12 = .ok (.if_icmp .le 13, 3) := by decide +kernel
theorem dX3_write_15 : decode cX3_write 15 = .ok (.new 56, 3) := by decide +kernel
theorem dX3_write_18 : decode cX3_write 18 = .ok (.dup, 1) := by decide +kernel
theorem dX3_write_19 : decode cX3_write 19 = .ok (.ldc 125, 2) := by decide +kernel
theorem dX3_write_21 : decode cX3_write 21 = .ok (.invokespecial 60, 3) := by decide +kernel
theorem dX3_write_24 : decode cX3_write 24 = .ok (.athrow, 1) := by decide +kernel
theorem dX3_write_25 : decode cX3_write 25 = .ok (.iload_n 2, 1) := by decide +kernel
theorem dX3_write_26 : decode cX3_write 26 = .ok (.invokestatic 104, 3) := by decide +kernel
theorem dX3_write_29 : decode cX3_write 29 = .ok (.istore 4, 2) := by decide +kernel
theorem dX3_write_31 : decode cX3_write 31 = .ok (.aload_n 0, 1) := by decide +kernel
theorem dX3_write_32 : decode cX3_write 32 = .ok (.iload 4, 2) := by decide +kernel
theorem dX3_write_34 : decode cX3_write 34 = .ok (.invokevirtual 127, 3) := by decide +kernel
theorem dX3_write_37 : decode cX3_write 37 = .ok (.astore 5, 2) := by decide +kernel
theorem dX3_write_39 : decode cX3_write 39 = .ok (.aload_n 0, 1) := by decide +kernel
theorem dX3_write_40 : decode cX3_write 40 = .ok (.iload_n 1, 1) := by decide +kernel
theorem dX3_write_41 : decode cX3_write 41 = .ok (.invokevirtual 130, 3) := by decide +kernel
theorem dX3_write_44 : decode cX3_write 44 = .ok (.aload 5, 2) := by decide +kernel
theorem dX3_write_46 : decode cX3_write 46 = .ok (.iload_n 1, 1) := by decide +kernel
theorem dX3_write_47 : decode cX3_write 47 = .ok (.aload_n 0, 1) := by decide +kernel
theorem dX3_write_48 : decode cX3_write 48 = .ok (.iload 4, 2) := by decide +kernel
theorem dX3_write_50 : decode cX3_write 50 = .ok (.invokevirtual 133, 3) := by decide +kernel
theorem dX3_write_53 : decode cX3_write 53 = .ok (.invokevirtual 136, 3) := by decide +kernel
theorem dX3_write_56 : decode cX3_write 56 = .ok (.isub, 1) := by decide +kernel
theorem dX3_write_57 : decode cX3_write 57 = .ok (.iload_n 3, 1) := by decide +kernel
theorem dX3_write_58 : decode cX3_write 58 = .ok (.iadd, 1) := by decide +kernel
theorem dX3_write_59 : decode cX3_write 59 = .ok (.istore 6, 2) := by decide +kernel
theorem dX3_write_61 : decode cX3_write 61 = .ok (.iload 6, 2) := by decide +kernel
theorem dX3_write_63 : decode cX3_write 63 = .ok (.aload_n 0, 1) := by decide +kernel
theorem dX3_write_64 : decode cX3_write 64 = .ok (.iload_n 1, 1) := by decide +kernel
theorem dX3_write_65 : decode cX3_write 65 = .ok (.invokevirtual 140, 3) := by decide +kernel
theorem dX3_write_68 : decode cX3_write 68 = .ok (.if_icmp .le 13, 3) := by decide +kernel
theorem dX3_write_71 : decode cX3_write 71 = .ok (.new 77, 3) := by decide +kernel
theorem dX3_write_74 : decode cX3_write 74 = .ok (.dup, 1) := by decide +kernel
theorem dX3_write_75 : decode cX3_write 75 = .ok (.ldc 143, 2) := by decide +kernel
theorem dX3_write_77 : decode cX3_write 77 = .ok (.invokespecial 81, 3) := by decide +kernel
theorem dX3_write_80 : decode cX3_write 80 = .ok (.athrow, 1) := by decide +kernel
theorem dX3_write_81 : decode cX3_write 81 = .ok (.aload_n 0, 1) := by decide +kernel
theorem dX3_write_82 : decode cX3_write 82 = .ok (.iload 4, 2) := by decide +kernel
theorem dX3_write_84 : decode cX3_write 84 = .ok (.aload 5, 2) := by decide +kernel
theorem dX3_write_86 : decode cX3_write 86 = .ok (.iconst 1, 1) := by decide +kernel
theorem dX3_write_87 : decode cX3_write 87 = .ok (.iload_n 1, 1) := by decide +kernel
theorem dX3_write_88 : decode cX3_write 88 = .ok (.iload_n 3, 1) := by decide +kernel
theorem dX3_write_89 : decode cX3_write 89 = .ok (.invokevirtual 145, 3) := by decide +kernel
theorem dX3_write_92 : decode cX3_write 92 = .ok (.aload_n 0, 1) := by decide +kernel
theorem dX3_write_93 : decode cX3_write 93 = .ok (.iload_n 1, 1) := by decide +kernel
theorem dX3_write_94 : decode cX3_write 94 = .ok (.invokevirtual 130, 3) := by decide +kernel
theorem dX3_write_97 : decode cX3_write 97 = .ok (.ireturn, 1) := by decide +kernel
theorem dX3_link_0 : decode cX3_link 0 = .ok (.iload_n 1, 1) := by decide +kernel
theorem dX3_link_1 : decode cX3_link 1 = .ok (.invokestatic 121, 3) := by decide +kernel
theorem dX3_link_4 : decode cX3_link 4 = .ok (.iload_n 2, 1) := by decide +kernel
theorem dX3_link_5 : decode cX3_link 5 = .ok (.invokestatic 104, 3) := by decide +kernel
theorem dX3_link_8 : decode cX3_link 8 = .ok (.istore 4, 2) := by decide +kernel
theorem dX3_link_10 : decode cX3_link 10 = .ok (.iload_n 3, 1) := by decide +kernel
theorem dX3_link_11 : decode cX3_link 11 = .ok (.invokestatic 104, 3) := by decide +kernel
theorem dX3_link_14 : decode cX3_link 14 = .ok (.pop, 1) := by decide +kernel
theorem dX3_link_15 : decode cX3_link 15 = .ok (.aload_n 0, 1) := by decide +kernel
theorem dX3_link_16 : decode cX3_link 16 = .ok (.iload 4, 2) := by decide +kernel
theorem dX3_link_18 : decode cX3_link 18 = .ok (.aload_n 0, 1) := by decide +kernel
theorem dX3_link_19 : decode cX3_link 19 = .ok (.iload 4, 2) := by decide +kernel
theorem dX3_link_21 : decode cX3_link 21 = .ok (.invokevirtual 127, 3) := by decide +kernel
theorem dX3_link_24 : decode cX3_link 24 = .ok (.iconst 2, 1) := by decide +kernel
theorem dX3_link_25 : decode cX3_link 25 = .ok (.iload_n 1, 1) := by decide +kernel
theorem dX3_link_26 : decode cX3_link 26 = .ok (.iload_n 3, 1) := by decide +kernel
theorem dX3_link_27 : decode cX3_link 27 = .ok (.invokevirtual 145, 3) := by decide +kernel
theorem dX3_link_30 : decode cX3_link 30 = .ok (.iconst 0, 1) := by decide +kernel
theorem dX3_link_31 : decode cX3_link 31 = .ok (.istore 5, 2) := by decide +kernel
theorem dX3_link_33 : decode cX3_link 33 = .ok (.iconst 0, 1) := by decide +kernel
theorem dX3_link_34 : decode cX3_link 34 = .ok (.istore 6, 2) := by decide +kernel
theorem dX3_link_36 : decode cX3_link 36 = .ok (.iload 6, 2) := by decide +kernel
theorem dX3_link_38 : decode cX3_link 38 = .ok (.aload_n 0, 1) := by decide +kernel
theorem dX3_link_39 : decode cX3_link 39 = .ok (.getfield 40, 3) := by decide +kernel
theorem dX3_link_42 : decode cX3_link 42 = .ok (.if_icmp .ge 33, 3) := by decide +kernel
theorem dX3_link_45 : decode cX3_link 45 = .ok (.aload_n 0, 1) := by decide +kernel
theorem dX3_link_46 : decode cX3_link 46 = .ok (.iload 6, 2) := by decide +kernel
theorem dX3_link_48 : decode cX3_link 48 = .ok (.invokevirtual 61, 3) := by decide +kernel
theorem dX3_link_51 : decode cX3_link 51 = .ok (.astore 7, 2) := by decide +kernel
theorem dX3_link_53 : decode cX3_link 53 = .ok (.aload 7, 2) := by decide +kernel
theorem dX3_link_55 : decode cX3_link 55 = .ok (.ifnull 14, 3) := by decide +kernel
theorem dX3_link_58 : decode cX3_link 58 = .ok (.iload 5, 2) := by decide +kernel
theorem dX3_link_60 : decode cX3_link 60 = .ok (.aload 7, 2) := by decide +kernel
theorem dX3_link_62 : decode cX3_link 62 = .ok (.iconst 2, 1) := by decide +kernel
theorem dX3_link_63 : decode cX3_link 63 = .ok (.invokevirtual 149, 3) := by decide +kernel
theorem dX3_link_66 : decode cX3_link 66 = .ok (.iadd, 1) := by decide +kernel
theorem dX3_link_67 : decode cX3_link 67 = .ok (.istore 5, 2) := by decide +kernel
theorem dX3_link_69 : decode cX3_link 69 = .ok (.iinc 6 1, 3) := by decide +kernel
theorem dX3_link_72 : decode cX3_link 72 = .ok (.goto (-36), 3) := by decide +kernel
theorem dX3_link_75 : decode cX3_link 75 = .ok (.iload 5, 2) := by decide +kernel
theorem dX3_link_77 : decode cX3_link 77 = .ok (.ireturn, 1) := by decide +kernel
theorem dX3_remove_0 : decode cX3_remove 0 = .ok (.iload_n 1, 1) := by decide +kernel
theorem dX3_remove_1 : decode cX3_remove 1 = .ok (.invokestatic 104, 3) := by decide +kernel
theorem dX3_remove_4 : decode cX3_remove 4 = .ok (.istore_n 2, 1) := by decide +kernel
theorem dX3_remove_5 : decode cX3_remove 5 = .ok (.aload_n 0, 1) := by decide +kernel
theorem dX3_remove_6 : decode cX3_remove 6 = .ok (.iload_n 2, 1) := by decide +kernel
theorem dX3_remove_7 : decode cX3_remove 7 = .ok (.invokevirtual 152, 3) := by decide +kernel
theorem dX3_remove_10 : decode cX3_remove 10 = .ok (.aload_n 0, 1) := by decide +kernel
theorem dX3_remove_11 : decode cX3_remove 11 = .ok (.iload_n 2, 1) := by decide +kernel
theorem dX3_remove_12 : decode cX3_remove 12 = .ok (.invokevirtual 133, 3) := by decide +kernel
theorem dX3_remove_15 : decode cX3_remove 15 = .ok (.invokevirtual 155, 3) := by decide +kernel
theorem dX3_remove_18 : decode cX3_remove 18 = .ok (.istore_n 3, 1) := by decide +kernel
theorem dX3_remove_19 : decode cX3_remove 19 = .ok (.aload_n 0, 1) := by decide +kernel
theorem dX3_remove_20 : decode cX3_remove 20 = .ok (.aload_n 0, 1) := by decide +kernel
theorem dX3_remove_21 : decode cX3_remove 21 = .ok (.iload_n 2, 1) := by decide +kernel
theorem dX3_remove_22 : decode cX3_remove 22 = .ok (.invokevirtual 113, 3) := by decide +kernel
theorem dX3_remove_25 : decode cX3_remove 25 = .ok (.invokevirtual 101, 3) := by decide +kernel
theorem dX3_remove_28 : decode cX3_remove 28 = .ok (.astore 4, 2) := by decide +kernel
theorem dX3_remove_30 : decode cX3_remove 30 = .ok (.aload 4, 2) := by decide +kernel
theorem dX3_remove_32 : decode cX3_remove 32 = .ok (.ifnull 73, 3) := by decide +kernel
theorem dX3_remove_35 : decode cX3_remove 35 = .ok (.aload 4, 2) := by decide +kernel
theorem dX3_remove_37 : decode cX3_remove 37 = .ok (.getfield 158, 3) := by decide +kernel
theorem dX3_remove_40 : decode cX3_remove 40 = .ok (.iconst (-1), 1) := by decide +kernel
theorem dX3_remove_41 : decode cX3_remove 41 = .ok (.if_icmp .eq 27, 3) := by decide +kernel
theorem dX3_remove_44 : decode cX3_remove 44 = .ok (.aload_n 0, 1) := by decide +kernel
theorem dX3_remove_45 : decode cX3_remove 45 = .ok (.aload 4, 2) := by decide +kernel
theorem dX3_remove_47 : decode cX3_remove 47 = .ok (.getfield 161, 3) := by decide +kernel
theorem dX3_remove_50 : decode cX3_remove 50 = .ok (.aload_n 0, 1) := by decide +kernel
theorem dX3_remove_51 : decode cX3_remove 51 = .ok (.iload_n 2, 1) := by decide +kernel
theorem dX3_remove_52 : decode cX3_remove 52 = .ok (.invokevirtual 133, 3) := by decide +kernel
theorem dX3_remove_55 : decode cX3_remove 55 = .ok (.invokevirtual 164, 3) := by decide +kernel
theorem dX3_remove_58 : decode cX3_remove 58 = .ok (.invokestatic 167, 3) := by decide +kernel
theorem dX3_remove_61 : decode cX3_remove 61 = .ok (.ifCond .eq 7, 3) := by decide +kernel
theorem dX3_remove_64 : decode cX3_remove 64 = .ok (.iconst 1, 1) := by decide +kernel
theorem dX3_remove_65 : decode cX3_remove 65 = .ok (.goto 4, 3) := by decide +kernel
theorem dX3_remove_68 : decode cX3_remove 68 = .ok (.iconst 0, 1) := by decide +kernel
theorem dX3_remove_69 : decode cX3_remove 69 = .ok (.istore 5, 2) := by decide +kernel
theorem dX3_remove_71 : decode cX3_remove 71 = .ok (.iload 5, 2) := by decide +kernel
theorem dX3_remove_73 : decode cX3_remove 73 = .ok (.ifCond .eq 7, 3) := by decide +kernel
theorem dX3_remove_76 : decode cX3_remove 76 = .ok (.iconst 3, 1) := by decide +kernel
theorem dX3_remove_77 : decode cX3_remove 77 = .ok (.goto 4, 3) := by decide +kernel
theorem dX3_remove_80 : decode cX3_remove 80 = .ok (.iconst 0, 1) := by decide +kernel
theorem dX3_remove_81 : decode cX3_remove 81 = .ok (.istore 6, 2) := by decide +kernel
theorem dX3_remove_83 : decode cX3_remove 83 = .ok (.aload_n 0, 1) := by decide +kernel
theorem dX3_remove_84 : decode cX3_remove 84 = .ok (.aload_n 0, 1) := by decide +kernel
theorem dX3_remove_85 : decode cX3_remove 85 = .ok (.aload 4, 2) := by decide +kernel
theorem dX3_remove_87 : decode cX3_remove 87 = .ok (.invokevirtual 170, 3) := by decide +kernel
theorem dX3_remove_90 : decode cX3_remove 90 = .ok (.invokevirtual 61, 3) := by decide +kernel
theorem dX3_remove_93 : decode cX3_remove 93 = .ok (.aload_n 0, 1) := by decide +kernel
theorem dX3_remove_94 : decode cX3_remove 94 = .ok (.iload_n 2, 1) := by decide +kernel
theorem dX3_remove_95 : decode cX3_remove 95 = .ok (.invokevirtual 133, 3) := by decide +kernel
theorem dX3_remove_98 : decode cX3_remove 98 = .ok (.iload 6, 2) := by decide +kernel
theorem dX3_remove_100 : decode cX3_remove 100 = .ok (.iconst 0, 1) := by decide +kernel
theorem dX3_remove_101 : decode cX3_remove 101 = .ok (.iconst 0, 1) := by decide +kernel
theorem dX3_remove_102 : decode cX3_remove 102 = .ok (.invokevirtual 174, 3) := by decide +kernel
theorem dX3_remove_105 : decode cX3_remove 105 = .ok (.iload_n 3, 1) := by decide +kernel
theorem dX3_remove_106 : decode cX3_remove 106 = .ok (.ireturn, 1) := by decide +kernel
theorem dX3_shows_0 : decode cX3_shows 0 = .ok (.iload_n 1, 1) := by decide +kernel
theorem dX3_shows_1 : decode cX3_shows 1 = .ok (.invokestatic 104, 3) := by decide +kernel
theorem dX3_shows_4 : decode cX3_shows 4 = .ok (.istore_n 2, 1) := by decide +kernel
theorem dX3_shows_5 : decode cX3_shows 5 = .ok (.aload_n 0, 1) := by decide +kernel
theorem dX3_shows_6 : decode cX3_shows 6 = .ok (.aload_n 0, 1) := by decide +kernel
theorem dX3_shows_7 : decode cX3_shows 7 = .ok (.iload_n 2, 1) := by decide +kernel
theorem dX3_shows_8 : decode cX3_shows 8 = .ok (.invokevirtual 178, 3) := by decide +kernel
theorem dX3_shows_11 : decode cX3_shows 11 = .ok (.aload_n 0, 1) := by decide +kernel
theorem dX3_shows_12 : decode cX3_shows 12 = .ok (.iload_n 2, 1) := by decide +kernel
theorem dX3_shows_13 : decode cX3_shows 13 = .ok (.invokevirtual 133, 3) := by decide +kernel
theorem dX3_shows_16 : decode cX3_shows 16 = .ok (.invokevirtual 164, 3) := by decide +kernel
theorem dX3_shows_19 : decode cX3_shows 19 = .ok (.lookupswitch 31 #[(1, 25), (2, 28)], 25) := by decide +kernel
theorem dX3_shows_44 : decode cX3_shows 44 = .ok (.bipush 102, 2) := by decide +kernel
theorem dX3_shows_46 : decode cX3_shows 46 = .ok (.ireturn, 1) := by decide +kernel
theorem dX3_shows_47 : decode cX3_shows 47 = .ok (.bipush 108, 2) := by decide +kernel
theorem dX3_shows_49 : decode cX3_shows 49 = .ok (.ireturn, 1) := by decide +kernel
theorem dX3_shows_50 : decode cX3_shows 50 = .ok (.bipush 45, 2) := by decide +kernel
theorem dX3_shows_52 : decode cX3_shows 52 = .ok (.ireturn, 1) := by decide +kernel
theorem dX3_layerOf_0 : decode cX3_layerOf 0 = .ok (.aload_n 0, 1) := by decide +kernel
theorem dX3_layerOf_1 : decode cX3_layerOf 1 = .ok (.iload_n 1, 1) := by decide +kernel
theorem dX3_layerOf_2 : decode cX3_layerOf 2 = .ok (.invokestatic 104, 3) := by decide +kernel
theorem dX3_layerOf_5 : decode cX3_layerOf 5 = .ok (.invokevirtual 178, 3) := by decide +kernel
theorem dX3_layerOf_8 : decode cX3_layerOf 8 = .ok (.istore_n 2, 1) := by decide +kernel
theorem dX3_layerOf_9 : decode cX3_layerOf 9 = .ok (.iload_n 2, 1) := by decide +kernel
theorem dX3_layerOf_10 : decode cX3_layerOf 10 = .ok (.iconst (-1), 1) := by decide +kernel
theorem dX3_layerOf_11 : decode cX3_layerOf 11 = .ok (.if_icmp .ne 13, 3) := by decide +kernel
theorem dX3_layerOf_14 : decode cX3_layerOf 14 = .ok (.new 116, 3) := by decide +kernel
theorem dX3_layerOf_17 : decode cX3_layerOf 17 = .ok (.dup, 1) := by decide +kernel
theorem dX3_layerOf_18 : decode cX3_layerOf 18 = .ok (.ldc 181, 2) := by decide +kernel
theorem dX3_layerOf_20 : decode cX3_layerOf 20 = .ok (.invokespecial 120, 3) := by decide +kernel
theorem dX3_layerOf_23 : decode cX3_layerOf 23 = .ok (.athrow, 1) := by decide +kernel
theorem dX3_layerOf_24 : decode cX3_layerOf 24 = .ok (.iload_n 2, 1) := by decide +kernel
theorem dX3_layerOf_25 : decode cX3_layerOf 25 = .ok (.ireturn, 1) := by decide +kernel
theorem dX3_end_0 : decode cX3_end 0 = .ok (.iload_n 1, 1) := by decide +kernel
theorem dX3_end_1 : decode cX3_end 1 = .ok (.invokestatic 104, 3) := by decide +kernel
theorem dX3_end_4 : decode cX3_end 4 = .ok (.pop, 1) := by decide +kernel
theorem dX3_end_5 : decode cX3_end 5 = .ok (.aload_n 0, 1) := by decide +kernel
theorem dX3_end_6 : decode cX3_end 6 = .ok (.iload_n 1, 1) := by decide +kernel
theorem dX3_end_7 : decode cX3_end 7 = .ok (.invokevirtual 183, 3) := by decide +kernel
theorem dX3_end_10 : decode cX3_end 10 = .ok (.ireturn, 1) := by decide +kernel
theorem dX3_size_0 : decode cX3_size 0 = .ok (.iload_n 1, 1) := by decide +kernel
theorem dX3_size_1 : decode cX3_size 1 = .ok (.invokestatic 104, 3) := by decide +kernel
theorem dX3_size_4 : decode cX3_size 4 = .ok (.pop, 1) := by decide +kernel
theorem dX3_size_5 : decode cX3_size 5 = .ok (.aload_n 0, 1) := by decide +kernel
theorem dX3_size_6 : decode cX3_size 6 = .ok (.aload_n 0, 1) := by decide +kernel
theorem dX3_size_7 : decode cX3_size 7 = .ok (.iload_n 1, 1) := by decide +kernel
theorem dX3_size_8 : decode cX3_size 8 = .ok (.invokevirtual 183, 3) := by decide +kernel
theorem dX3_size_11 : decode cX3_size 11 = .ok (.invokestatic 52, 3) := by decide +kernel
theorem dX3_size_14 : decode cX3_size 14 = .ok (.invokevirtual 186, 3) := by decide +kernel
theorem dX3_size_17 : decode cX3_size 17 = .ok (.istore_n 2, 1) := by decide +kernel
theorem dX3_size_18 : decode cX3_size 18 = .ok (.iload_n 2, 1) := by decide +kernel
theorem dX3_size_19 : decode cX3_size 19 = .ok (.iconst (-1), 1) := by decide +kernel
theorem dX3_size_20 : decode cX3_size 20 = .ok (.if_icmp .ne 13, 3) := by decide +kernel
theorem dX3_size_23 : decode cX3_size 23 = .ok (.new 116, 3) := by decide +kernel
theorem dX3_size_26 : decode cX3_size 26 = .ok (.dup, 1) := by decide +kernel
theorem dX3_size_27 : decode cX3_size 27 = .ok (.ldc 189, 2) := by decide +kernel
theorem dX3_size_29 : decode cX3_size 29 = .ok (.invokespecial 120, 3) := by decide +kernel
theorem dX3_size_32 : decode cX3_size 32 = .ok (.athrow, 1) := by decide +kernel
theorem dX3_size_33 : decode cX3_size 33 = .ok (.iload_n 2, 1) := by decide +kernel
theorem dX3_size_34 : decode cX3_size 34 = .ok (.ireturn, 1) := by decide +kernel
theorem dX3_sizeByWalking_0 : decode cX3_sizeByWalking 0 = .ok (.iload_n 1, 1) := by decide +kernel
theorem dX3_sizeByWalking_1 : decode cX3_sizeByWalking 1 = .ok (.invokestatic 104, 3) := by decide +kernel
theorem dX3_sizeByWalking_4 : decode cX3_sizeByWalking 4 = .ok (.pop, 1) := by decide +kernel
theorem dX3_sizeByWalking_5 : decode cX3_sizeByWalking 5 = .ok (.iconst (-1), 1) := by decide +kernel
theorem dX3_sizeByWalking_6 : decode cX3_sizeByWalking 6 = .ok (.istore_n 2, 1) := by decide +kernel
theorem dX3_sizeByWalking_7 : decode cX3_sizeByWalking 7 = .ok (.iconst 0, 1) := by decide +kernel
theorem dX3_sizeByWalking_8 : decode cX3_sizeByWalking 8 = .ok (.istore_n 3, 1) := by decide +kernel
theorem dX3_sizeByWalking_9 : decode cX3_sizeByWalking 9 = .ok (.iload_n 3, 1) := by decide +kernel
theorem dX3_sizeByWalking_10 : decode cX3_sizeByWalking 10 = .ok (.aload_n 0, 1) := by decide +kernel
theorem dX3_sizeByWalking_11 : decode cX3_sizeByWalking 11 = .ok (.getfield 82, 3) := by decide +kernel
theorem dX3_sizeByWalking_14 : decode cX3_sizeByWalking 14 = .ok (.if_icmp .ge 63, 3) := by decide +kernel
theorem dX3_sizeByWalking_17 : decode cX3_sizeByWalking 17 = .ok (.aload_n 0, 1) := by decide +kernel
theorem dX3_sizeByWalking_18 : decode cX3_sizeByWalking 18 = .ok (.iload_n 3, 1) := by decide +kernel
theorem dX3_sizeByWalking_19 : decode cX3_sizeByWalking 19 = .ok (.invokevirtual 101, 3) := by decide +kernel
theorem dX3_sizeByWalking_22 : decode cX3_sizeByWalking 22 = .ok (.astore 4, 2) := by decide +kernel
theorem dX3_sizeByWalking_24 : decode cX3_sizeByWalking 24 = .ok (.aload 4, 2) := by decide +kernel
theorem dX3_sizeByWalking_26 : decode cX3_sizeByWalking 26 = .ok (.ifnonnull 7, 3) := by decide +kernel
theorem dX3_sizeByWalking_29 : decode cX3_sizeByWalking 29 = .ok (.iconst (-1), 1) := by decide +kernel
theorem dX3_sizeByWalking_30 : decode cX3_sizeByWalking 30 = .ok (.goto 12, 3) := by decide +kernel
theorem dX3_sizeByWalking_33 : decode cX3_sizeByWalking 33 = .ok (.aload 4, 2) := by decide +kernel
theorem dX3_sizeByWalking_35 : decode cX3_sizeByWalking 35 = .ok (.getfield 107, 3) := by decide +kernel
theorem dX3_sizeByWalking_38 : decode cX3_sizeByWalking 38 = .ok (.iload_n 1, 1) := by decide +kernel
theorem dX3_sizeByWalking_39 : decode cX3_sizeByWalking 39 = .ok (.invokestatic 191, 3) := by decide +kernel
theorem dX3_sizeByWalking_42 : decode cX3_sizeByWalking 42 = .ok (.istore 5, 2) := by decide +kernel
theorem dX3_sizeByWalking_44 : decode cX3_sizeByWalking 44 = .ok (.iload 5, 2) := by decide +kernel
theorem dX3_sizeByWalking_46 : decode cX3_sizeByWalking 46 = .ok (.iconst (-1), 1) := by decide +kernel
theorem dX3_sizeByWalking_47 : decode cX3_sizeByWalking 47 = .ok (.if_icmp .eq 24, 3) := by decide +kernel
theorem dX3_sizeByWalking_50 : decode cX3_sizeByWalking 50 = .ok (.aload_n 0, 1) := by decide +kernel
theorem dX3_sizeByWalking_51 : decode cX3_sizeByWalking 51 = .ok (.aload_n 0, 1) := by decide +kernel
theorem dX3_sizeByWalking_52 : decode cX3_sizeByWalking 52 = .ok (.aload 4, 2) := by decide +kernel
theorem dX3_sizeByWalking_54 : decode cX3_sizeByWalking 54 = .ok (.iload 5, 2) := by decide +kernel
theorem dX3_sizeByWalking_56 : decode cX3_sizeByWalking 56 = .ok (.invokestatic 52, 3) := by decide +kernel
theorem dX3_sizeByWalking_59 : decode cX3_sizeByWalking 59 = .ok (.invokevirtual 194, 3) := by decide +kernel
theorem dX3_sizeByWalking_62 : decode cX3_sizeByWalking 62 = .ok (.iload 5, 2) := by decide +kernel
theorem dX3_sizeByWalking_64 : decode cX3_sizeByWalking 64 = .ok (.invokestatic 52, 3) := by decide +kernel
theorem dX3_sizeByWalking_67 : decode cX3_sizeByWalking 67 = .ok (.invokevirtual 198, 3) := by decide +kernel
theorem dX3_sizeByWalking_70 : decode cX3_sizeByWalking 70 = .ok (.istore_n 2, 1) := by decide +kernel
theorem dX3_sizeByWalking_71 : decode cX3_sizeByWalking 71 = .ok (.iinc 3 1, 3) := by decide +kernel
theorem dX3_sizeByWalking_74 : decode cX3_sizeByWalking 74 = .ok (.goto (-65), 3) := by decide +kernel
theorem dX3_sizeByWalking_77 : decode cX3_sizeByWalking 77 = .ok (.iload_n 2, 1) := by decide +kernel
theorem dX3_sizeByWalking_78 : decode cX3_sizeByWalking 78 = .ok (.ireturn, 1) := by decide +kernel
theorem dX3_ownerOf_0 : decode cX3_ownerOf 0 = .ok (.iload_n 1, 1) := by decide +kernel
theorem dX3_ownerOf_1 : decode cX3_ownerOf 1 = .ok (.invokestatic 104, 3) := by decide +kernel
theorem dX3_ownerOf_4 : decode cX3_ownerOf 4 = .ok (.istore_n 2, 1) := by decide +kernel
theorem dX3_ownerOf_5 : decode cX3_ownerOf 5 = .ok (.aload_n 0, 1) := by decide +kernel
theorem dX3_ownerOf_6 : decode cX3_ownerOf 6 = .ok (.iload_n 2, 1) := by decide +kernel
theorem dX3_ownerOf_7 : decode cX3_ownerOf 7 = .ok (.invokevirtual 152, 3) := by decide +kernel
theorem dX3_ownerOf_10 : decode cX3_ownerOf 10 = .ok (.aload_n 0, 1) := by decide +kernel
theorem dX3_ownerOf_11 : decode cX3_ownerOf 11 = .ok (.iload_n 2, 1) := by decide +kernel
theorem dX3_ownerOf_12 : decode cX3_ownerOf 12 = .ok (.invokevirtual 133, 3) := by decide +kernel
theorem dX3_ownerOf_15 : decode cX3_ownerOf 15 = .ok (.invokevirtual 201, 3) := by decide +kernel
theorem dX3_ownerOf_18 : decode cX3_ownerOf 18 = .ok (.ireturn, 1) := by decide +kernel
theorem dX3_setQuota_0 : decode cX3_setQuota 0 = .ok (.iload_n 1, 1) := by decide +kernel
theorem dX3_setQuota_1 : decode cX3_setQuota 1 = .ok (.invokestatic 121, 3) := by decide +kernel
theorem dX3_setQuota_4 : decode cX3_setQuota 4 = .ok (.iload_n 2, 1) := by decide +kernel
theorem dX3_setQuota_5 : decode cX3_setQuota 5 = .ok (.ifCond .lt 9, 3) := by decide +kernel
theorem dX3_setQuota_8 : decode cX3_setQuota 8 = .ok (.iload_n 2, 1) := by decide +kernel
theorem dX3_setQuota_9 : decode cX3_setQuota 9 = .ok (.ldc 204, 2) := by decide +kernel
theorem dX3_setQuota_11 : decode cX3_setQuota 11 = .ok (.if_icmp .le 13, 3) := by decide +kernel
theorem dX3_setQuota_14 : decode cX3_setQuota 14 = .ok (.new 56, 3) := by decide +kernel
theorem dX3_setQuota_17 : decode cX3_setQuota 17 = .ok (.dup, 1) := by decide +kernel
theorem dX3_setQuota_18 : decode cX3_setQuota 18 = .ok (.ldc 205, 2) := by decide +kernel
theorem dX3_setQuota_20 : decode cX3_setQuota 20 = .ok (.invokespecial 60, 3) := by decide +kernel
theorem dX3_setQuota_23 : decode cX3_setQuota 23 = .ok (.athrow, 1) := by decide +kernel
theorem dX3_setQuota_24 : decode cX3_setQuota 24 = .ok (.aload_n 0, 1) := by decide +kernel
theorem dX3_setQuota_25 : decode cX3_setQuota 25 = .ok (.iload_n 1, 1) := by decide +kernel
theorem dX3_setQuota_26 : decode cX3_setQuota 26 = .ok (.invokevirtual 140, 3) := by decide +kernel
theorem dX3_setQuota_29 : decode cX3_setQuota 29 = .ok (.istore_n 3, 1) := by decide +kernel
theorem dX3_setQuota_30 : decode cX3_setQuota 30 = .ok (.iload_n 1, 1) := by decide +kernel
theorem dX3_setQuota_31 : decode cX3_setQuota 31 = .ok (.invokestatic 207, 3) := by decide +kernel
theorem dX3_setQuota_34 : decode cX3_setQuota 34 = .ok (.ifCond .eq 10, 3) := by decide +kernel
theorem dX3_setQuota_37 : decode cX3_setQuota 37 = .ok (.aload_n 0, 1) := by decide +kernel
theorem dX3_setQuota_38 : decode cX3_setQuota 38 = .ok (.getfield 31, 3) := by decide +kernel
theorem dX3_setQuota_41 : decode cX3_setQuota 41 = .ok (.iload_n 1, 1) := by decide +kernel
theorem dX3_setQuota_42 : decode cX3_setQuota 42 = .ok (.iload_n 2, 1) := by decide +kernel
theorem dX3_setQuota_43 : decode cX3_setQuota 43 = .ok (.iastore, 1) := by decide +kernel
theorem dX3_setQuota_44 : decode cX3_setQuota 44 = .ok (.iload_n 3, 1) := by decide +kernel
theorem dX3_setQuota_45 : decode cX3_setQuota 45 = .ok (.ireturn, 1) := by decide +kernel
theorem dX3_used_0 : decode cX3_used 0 = .ok (.iload_n 1, 1) := by decide +kernel
theorem dX3_used_1 : decode cX3_used 1 = .ok (.invokestatic 121, 3) := by decide +kernel
theorem dX3_used_4 : decode cX3_used 4 = .ok (.aload_n 0, 1) := by decide +kernel
theorem dX3_used_5 : decode cX3_used 5 = .ok (.iload_n 1, 1) := by decide +kernel
theorem dX3_used_6 : decode cX3_used 6 = .ok (.invokevirtual 130, 3) := by decide +kernel
theorem dX3_used_9 : decode cX3_used 9 = .ok (.ireturn, 1) := by decide +kernel
theorem dX3_usedByLayers_0 : decode cX3_usedByLayers 0 = .ok (.iload_n 1, 1) := by decide +kernel
theorem dX3_usedByLayers_1 : decode cX3_usedByLayers 1 = .ok (.invokestatic 121, 3) := by decide +kernel
theorem dX3_usedByLayers_4 : decode cX3_usedByLayers 4 = .ok (.iconst 0, 1) := by decide +kernel
theorem dX3_usedByLayers_5 : decode cX3_usedByLayers 5 = .ok (.istore_n 2, 1) := by decide +kernel
theorem dX3_usedByLayers_6 : decode cX3_usedByLayers 6 = .ok (.iconst 0, 1) := by decide +kernel
theorem dX3_usedByLayers_7 : decode cX3_usedByLayers 7 = .ok (.istore_n 3, 1) := by decide +kernel
theorem dX3_usedByLayers_8 : decode cX3_usedByLayers 8 = .ok (.iload_n 3, 1) := by decide +kernel
theorem dX3_usedByLayers_9 : decode cX3_usedByLayers 9 = .ok (.aload_n 0, 1) := by decide +kernel
theorem dX3_usedByLayers_10 : decode cX3_usedByLayers 10 = .ok (.getfield 40, 3) := by decide +kernel
theorem dX3_usedByLayers_13 : decode cX3_usedByLayers 13 = .ok (.if_icmp .ge 30, 3) := by decide +kernel
theorem dX3_usedByLayers_16 : decode cX3_usedByLayers 16 = .ok (.aload_n 0, 1) := by decide +kernel
theorem dX3_usedByLayers_17 : decode cX3_usedByLayers 17 = .ok (.iload_n 3, 1) := by decide +kernel
theorem dX3_usedByLayers_18 : decode cX3_usedByLayers 18 = .ok (.invokevirtual 61, 3) := by decide +kernel
theorem dX3_usedByLayers_21 : decode cX3_usedByLayers 21 = .ok (.astore 4, 2) := by decide +kernel
theorem dX3_usedByLayers_23 : decode cX3_usedByLayers 23 = .ok (.aload 4, 2) := by decide +kernel
theorem dX3_usedByLayers_25 : decode cX3_usedByLayers 25 = .ok (.ifnull 12, 3) := by decide +kernel
theorem dX3_usedByLayers_28 : decode cX3_usedByLayers 28 = .ok (.iload_n 2, 1) := by decide +kernel
theorem dX3_usedByLayers_29 : decode cX3_usedByLayers 29 = .ok (.aload 4, 2) := by decide +kernel
theorem dX3_usedByLayers_31 : decode cX3_usedByLayers 31 = .ok (.iload_n 1, 1) := by decide +kernel
theorem dX3_usedByLayers_32 : decode cX3_usedByLayers 32 = .ok (.invokevirtual 210, 3) := by decide +kernel
theorem dX3_usedByLayers_35 : decode cX3_usedByLayers 35 = .ok (.iadd, 1) := by decide +kernel
theorem dX3_usedByLayers_36 : decode cX3_usedByLayers 36 = .ok (.istore_n 2, 1) := by decide +kernel
theorem dX3_usedByLayers_37 : decode cX3_usedByLayers 37 = .ok (.iinc 3 1, 3) := by decide +kernel
theorem dX3_usedByLayers_40 : decode cX3_usedByLayers 40 = .ok (.goto (-32), 3) := by decide +kernel
theorem dX3_usedByLayers_43 : decode cX3_usedByLayers 43 = .ok (.iload_n 2, 1) := by decide +kernel
theorem dX3_usedByLayers_44 : decode cX3_usedByLayers 44 = .ok (.ireturn, 1) := by decide +kernel
theorem dX3_hidden_0 : decode cX3_hidden 0 = .ok (.aload_n 0, 1) := by decide +kernel
theorem dX3_hidden_1 : decode cX3_hidden 1 = .ok (.invokevirtual 213, 3) := by decide +kernel
theorem dX3_hidden_4 : decode cX3_hidden 4 = .ok (.aload_n 0, 1) := by decide +kernel
theorem dX3_hidden_5 : decode cX3_hidden 5 = .ok (.invokevirtual 216, 3) := by decide +kernel
theorem dX3_hidden_8 : decode cX3_hidden 8 = .ok (.isub, 1) := by decide +kernel
theorem dX3_hidden_9 : decode cX3_hidden 9 = .ok (.ireturn, 1) := by decide +kernel
theorem dX3_copies_0 : decode cX3_copies 0 = .ok (.aload_n 0, 1) := by decide +kernel
theorem dX3_copies_1 : decode cX3_copies 1 = .ok (.getfield 219, 3) := by decide +kernel
theorem dX3_copies_4 : decode cX3_copies 4 = .ok (.ireturn, 1) := by decide +kernel
theorem dX3_whiteouts_0 : decode cX3_whiteouts 0 = .ok (.aload_n 0, 1) := by decide +kernel
theorem dX3_whiteouts_1 : decode cX3_whiteouts 1 = .ok (.iload_n 1, 1) := by decide +kernel
theorem dX3_whiteouts_2 : decode cX3_whiteouts 2 = .ok (.invokevirtual 222, 3) := by decide +kernel
theorem dX3_whiteouts_5 : decode cX3_whiteouts 5 = .ok (.iconst 3, 1) := by decide +kernel
theorem dX3_whiteouts_6 : decode cX3_whiteouts 6 = .ok (.invokevirtual 149, 3) := by decide +kernel
theorem dX3_whiteouts_9 : decode cX3_whiteouts 9 = .ok (.ireturn, 1) := by decide +kernel
theorem dX3_backUp_0 : decode cX3_backUp 0 = .ok (.aload_n 0, 1) := by decide +kernel
theorem dX3_backUp_1 : decode cX3_backUp 1 = .ok (.getfield 225, 3) := by decide +kernel
theorem dX3_backUp_4 : decode cX3_backUp 4 = .ok (.ifCond .lt 15, 3) := by decide +kernel
theorem dX3_backUp_7 : decode cX3_backUp 7 = .ok (.aload_n 0, 1) := by decide +kernel
theorem dX3_backUp_8 : decode cX3_backUp 8 = .ok (.getfield 225, 3) := by decide +kernel
theorem dX3_backUp_11 : decode cX3_backUp 11 = .ok (.aload_n 0, 1) := by decide +kernel
theorem dX3_backUp_12 : decode cX3_backUp 12 = .ok (.getfield 23, 3) := by decide +kernel
theorem dX3_backUp_15 : decode cX3_backUp 15 = .ok (.arraylength, 1) := by decide +kernel
theorem dX3_backUp_16 : decode cX3_backUp 16 = .ok (.if_icmp .lt 13, 3) := by decide +kernel
theorem dX3_backUp_19 : decode cX3_backUp 19 = .ok (.new 44, 3) := by decide +kernel
theorem dX3_backUp_22 : decode cX3_backUp 22 = .ok (.dup, 1) := by decide +kernel
theorem dX3_backUp_23 : decode cX3_backUp 23 = .ok (.ldc 228, 2) := by decide +kernel
theorem dX3_backUp_25 : decode cX3_backUp 25 = .ok (.invokespecial 48, 3) := by decide +kernel
theorem dX3_backUp_28 : decode cX3_backUp 28 = .ok (.athrow, 1) := by decide +kernel
theorem dX3_backUp_29 : decode cX3_backUp 29 = .ok (.new 21, 3) := by decide +kernel
theorem dX3_backUp_32 : decode cX3_backUp 32 = .ok (.dup, 1) := by decide +kernel
theorem dX3_backUp_33 : decode cX3_backUp 33 = .ok (.iload_n 1, 1) := by decide +kernel
theorem dX3_backUp_34 : decode cX3_backUp 34 = .ok (.invokespecial 230, 3) := by decide +kernel
theorem dX3_backUp_37 : decode cX3_backUp 37 = .ok (.astore_n 2, 1) := by decide +kernel
theorem dX3_backUp_38 : decode cX3_backUp 38 = .ok (.iconst 0, 1) := by decide +kernel
theorem dX3_backUp_39 : decode cX3_backUp 39 = .ok (.istore_n 3, 1) := by decide +kernel
theorem dX3_backUp_40 : decode cX3_backUp 40 = .ok (.iload_n 3, 1) := by decide +kernel
theorem dX3_backUp_41 : decode cX3_backUp 41 = .ok (.aload_n 2, 1) := by decide +kernel
theorem dX3_backUp_42 : decode cX3_backUp 42 = .ok (.getfield 233, 3) := by decide +kernel
theorem dX3_backUp_45 : decode cX3_backUp 45 = .ok (.arraylength, 1) := by decide +kernel
theorem dX3_backUp_46 : decode cX3_backUp 46 = .ok (.if_icmp .ge 21, 3) := by decide +kernel
theorem dX3_backUp_49 : decode cX3_backUp 49 = .ok (.aload_n 2, 1) := by decide +kernel
theorem dX3_backUp_50 : decode cX3_backUp 50 = .ok (.getfield 233, 3) := by decide +kernel
theorem dX3_backUp_53 : decode cX3_backUp 53 = .ok (.iload_n 3, 1) := by decide +kernel
theorem dX3_backUp_54 : decode cX3_backUp 54 = .ok (.aload_n 0, 1) := by decide +kernel
theorem dX3_backUp_55 : decode cX3_backUp 55 = .ok (.iload_n 1, 1) := by decide +kernel
theorem dX3_backUp_56 : decode cX3_backUp 56 = .ok (.iload_n 3, 1) := by decide +kernel
theorem dX3_backUp_57 : decode cX3_backUp 57 = .ok (.invokevirtual 236, 3) := by decide +kernel
theorem dX3_backUp_60 : decode cX3_backUp 60 = .ok (.iastore, 1) := by decide +kernel
theorem dX3_backUp_61 : decode cX3_backUp 61 = .ok (.iinc 3 1, 3) := by decide +kernel
theorem dX3_backUp_64 : decode cX3_backUp 64 = .ok (.goto (-24), 3) := by decide +kernel
theorem dX3_backUp_67 : decode cX3_backUp 67 = .ok (.aload_n 0, 1) := by decide +kernel
theorem dX3_backUp_68 : decode cX3_backUp 68 = .ok (.getfield 225, 3) := by decide +kernel
theorem dX3_backUp_71 : decode cX3_backUp 71 = .ok (.istore_n 3, 1) := by decide +kernel
theorem dX3_backUp_72 : decode cX3_backUp 72 = .ok (.aload_n 0, 1) := by decide +kernel
theorem dX3_backUp_73 : decode cX3_backUp 73 = .ok (.getfield 23, 3) := by decide +kernel
theorem dX3_backUp_76 : decode cX3_backUp 76 = .ok (.iload_n 3, 1) := by decide +kernel
theorem dX3_backUp_77 : decode cX3_backUp 77 = .ok (.aload_n 2, 1) := by decide +kernel
theorem dX3_backUp_78 : decode cX3_backUp 78 = .ok (.aastore, 1) := by decide +kernel
theorem dX3_backUp_79 : decode cX3_backUp 79 = .ok (.aload_n 0, 1) := by decide +kernel
theorem dX3_backUp_80 : decode cX3_backUp 80 = .ok (.dup, 1) := by decide +kernel
theorem dX3_backUp_81 : decode cX3_backUp 81 = .ok (.getfield 225, 3) := by decide +kernel
theorem dX3_backUp_84 : decode cX3_backUp 84 = .ok (.iconst 1, 1) := by decide +kernel
theorem dX3_backUp_85 : decode cX3_backUp 85 = .ok (.iadd, 1) := by decide +kernel
theorem dX3_backUp_86 : decode cX3_backUp 86 = .ok (.putfield 225, 3) := by decide +kernel
theorem dX3_backUp_89 : decode cX3_backUp 89 = .ok (.iload_n 3, 1) := by decide +kernel
theorem dX3_backUp_90 : decode cX3_backUp 90 = .ok (.ireturn, 1) := by decide +kernel
theorem dX3_bytes_0 : decode cX3_bytes 0 = .ok (.aload_n 0, 1) := by decide +kernel
theorem dX3_bytes_1 : decode cX3_bytes 1 = .ok (.iload_n 1, 1) := by decide +kernel
theorem dX3_bytes_2 : decode cX3_bytes 2 = .ok (.invokevirtual 240, 3) := by decide +kernel
theorem dX3_bytes_5 : decode cX3_bytes 5 = .ok (.invokevirtual 244, 3) := by decide +kernel
theorem dX3_bytes_8 : decode cX3_bytes 8 = .ok (.ireturn, 1) := by decide +kernel
theorem dX3_differences_0 : decode cX3_differences 0 = .ok (.aload_n 0, 1) := by decide +kernel
theorem dX3_differences_1 : decode cX3_differences 1 = .ok (.iload_n 1, 1) := by decide +kernel
theorem dX3_differences_2 : decode cX3_differences 2 = .ok (.invokevirtual 240, 3) := by decide +kernel
theorem dX3_differences_5 : decode cX3_differences 5 = .ok (.astore_n 2, 1) := by decide +kernel
theorem dX3_differences_6 : decode cX3_differences 6 = .ok (.iconst 0, 1) := by decide +kernel
theorem dX3_differences_7 : decode cX3_differences 7 = .ok (.istore_n 3, 1) := by decide +kernel
theorem dX3_differences_8 : decode cX3_differences 8 = .ok (.iconst 0, 1) := by decide +kernel
theorem dX3_differences_9 : decode cX3_differences 9 = .ok (.istore 4, 2) := by decide +kernel
theorem dX3_differences_11 : decode cX3_differences 11 = .ok (.iload 4, 2) := by decide +kernel
theorem dX3_differences_13 : decode cX3_differences 13 = .ok (.aload_n 2, 1) := by decide +kernel
theorem dX3_differences_14 : decode cX3_differences 14 = .ok (.getfield 233, 3) := by decide +kernel
theorem dX3_differences_17 : decode cX3_differences 17 = .ok (.arraylength, 1) := by decide +kernel
theorem dX3_differences_18 : decode cX3_differences 18 = .ok (.if_icmp .ge 32, 3) := by decide +kernel
theorem dX3_differences_21 : decode cX3_differences 21 = .ok (.aload_n 2, 1) := by decide +kernel
theorem dX3_differences_22 : decode cX3_differences 22 = .ok (.getfield 233, 3) := by decide +kernel
theorem dX3_differences_25 : decode cX3_differences 25 = .ok (.iload 4, 2) := by decide +kernel
theorem dX3_differences_27 : decode cX3_differences 27 = .ok (.iaload, 1) := by decide +kernel
theorem dX3_differences_28 : decode cX3_differences 28 = .ok (.aload_n 0, 1) := by decide +kernel
theorem dX3_differences_29 : decode cX3_differences 29 = .ok (.aload_n 2, 1) := by decide +kernel
theorem dX3_differences_30 : decode cX3_differences 30 = .ok (.getfield 247, 3) := by decide +kernel
theorem dX3_differences_33 : decode cX3_differences 33 = .ok (.iload 4, 2) := by decide +kernel
theorem dX3_differences_35 : decode cX3_differences 35 = .ok (.invokevirtual 236, 3) := by decide +kernel
theorem dX3_differences_38 : decode cX3_differences 38 = .ok (.if_icmp .eq 6, 3) := by decide +kernel
theorem dX3_differences_41 : decode cX3_differences 41 = .ok (.iinc 3 1, 3) := by decide +kernel
theorem dX3_differences_44 : decode cX3_differences 44 = .ok (.iinc 4 1, 3) := by decide +kernel
theorem dX3_differences_47 : decode cX3_differences 47 = .ok (.goto (-36), 3) := by decide +kernel
theorem dX3_differences_50 : decode cX3_differences 50 = .ok (.iload_n 3, 1) := by decide +kernel
theorem dX3_differences_51 : decode cX3_differences 51 = .ok (.ireturn, 1) := by decide +kernel
theorem dX3_shownShare_0 : decode cX3_shownShare 0 = .ok (.aload_n 0, 1) := by decide +kernel
theorem dX3_shownShare_1 : decode cX3_shownShare 1 = .ok (.invokevirtual 213, 3) := by decide +kernel
theorem dX3_shownShare_4 : decode cX3_shownShare 4 = .ok (.istore_n 1, 1) := by decide +kernel
theorem dX3_shownShare_5 : decode cX3_shownShare 5 = .ok (.iload_n 1, 1) := by decide +kernel
theorem dX3_shownShare_6 : decode cX3_shownShare 6 = .ok (.ifCond .ne 13, 3) := by decide +kernel
theorem dX3_shownShare_9 : decode cX3_shownShare 9 = .ok (.new 250, 3) := by decide +kernel
theorem dX3_shownShare_12 : decode cX3_shownShare 12 = .ok (.dup, 1) := by decide +kernel
theorem dX3_shownShare_13 : decode cX3_shownShare 13 = .ok (.ldc 252, 2) := by decide +kernel
theorem dX3_shownShare_15 : decode cX3_shownShare 15 = .ok (.invokespecial 254, 3) := by decide +kernel
theorem dX3_shownShare_18 : decode cX3_shownShare 18 = .ok (.athrow, 1) := by decide +kernel
theorem dX3_shownShare_19 : decode cX3_shownShare 19 = .ok (.aload_n 0, 1) := by decide +kernel
theorem dX3_shownShare_20 : decode cX3_shownShare 20 = .ok (.invokevirtual 216, 3) := by decide +kernel
theorem dX3_shownShare_23 : decode cX3_shownShare 23 = .ok (.i2f, 1) := by decide +kernel
theorem dX3_shownShare_24 : decode cX3_shownShare 24 = .ok (.iload_n 1, 1) := by decide +kernel
theorem dX3_shownShare_25 : decode cX3_shownShare 25 = .ok (.i2f, 1) := by decide +kernel
theorem dX3_shownShare_26 : decode cX3_shownShare 26 = .ok (.fdiv, 1) := by decide +kernel
theorem dX3_shownShare_27 : decode cX3_shownShare 27 = .ok (.freturn, 1) := by decide +kernel
theorem dX3_meanSize_0 : decode cX3_meanSize 0 = .ok (.aload_n 0, 1) := by decide +kernel
theorem dX3_meanSize_1 : decode cX3_meanSize 1 = .ok (.iload_n 1, 1) := by decide +kernel
theorem dX3_meanSize_2 : decode cX3_meanSize 2 = .ok (.invokevirtual 222, 3) := by decide +kernel
theorem dX3_meanSize_5 : decode cX3_meanSize 5 = .ok (.astore_n 2, 1) := by decide +kernel
theorem dX3_meanSize_6 : decode cX3_meanSize 6 = .ok (.aload_n 2, 1) := by decide +kernel
theorem dX3_meanSize_7 : decode cX3_meanSize 7 = .ok (.iconst 1, 1) := by decide +kernel
theorem dX3_meanSize_8 : decode cX3_meanSize 8 = .ok (.invokevirtual 149, 3) := by decide +kernel
theorem dX3_meanSize_11 : decode cX3_meanSize 11 = .ok (.istore_n 3, 1) := by decide +kernel
theorem dX3_meanSize_12 : decode cX3_meanSize 12 = .ok (.iload_n 3, 1) := by decide +kernel
theorem dX3_meanSize_13 : decode cX3_meanSize 13 = .ok (.ifCond .ne 13, 3) := by decide +kernel
theorem dX3_meanSize_16 : decode cX3_meanSize 16 = .ok (.new 250, 3) := by decide +kernel
theorem dX3_meanSize_19 : decode cX3_meanSize 19 = .ok (.dup, 1) := by decide +kernel
theorem dX3_meanSize_20 : decode cX3_meanSize 20 = .ok (.ldc 255, 2) := by decide +kernel
theorem dX3_meanSize_22 : decode cX3_meanSize 22 = .ok (.invokespecial 254, 3) := by decide +kernel
theorem dX3_meanSize_25 : decode cX3_meanSize 25 = .ok (.athrow, 1) := by decide +kernel
theorem dX3_meanSize_26 : decode cX3_meanSize 26 = .ok (.aload_n 2, 1) := by decide +kernel
theorem dX3_meanSize_27 : decode cX3_meanSize 27 = .ok (.invokevirtual 257, 3) := by decide +kernel
theorem dX3_meanSize_30 : decode cX3_meanSize 30 = .ok (.i2d, 1) := by decide +kernel
theorem dX3_meanSize_31 : decode cX3_meanSize 31 = .ok (.iload_n 3, 1) := by decide +kernel
theorem dX3_meanSize_32 : decode cX3_meanSize 32 = .ok (.i2d, 1) := by decide +kernel
theorem dX3_meanSize_33 : decode cX3_meanSize 33 = .ok (.ddiv, 1) := by decide +kernel
theorem dX3_meanSize_34 : decode cX3_meanSize 34 = .ok (.dreturn, 1) := by decide +kernel
theorem dX3_placeOf_0 : decode cX3_placeOf 0 = .ok (.iload_n 0, 1) := by decide +kernel
theorem dX3_placeOf_1 : decode cX3_placeOf 1 = .ok (.ifCond .lt 10, 3) := by decide +kernel
theorem dX3_placeOf_4 : decode cX3_placeOf 4 = .ok (.iload_n 0, 1) := by decide +kernel
theorem dX3_placeOf_5 : decode cX3_placeOf 5 = .ok (.sipush 4444, 3) := by decide +kernel
theorem dX3_placeOf_8 : decode cX3_placeOf 8 = .ok (.if_icmp .le 5, 3) := by decide +kernel
theorem dX3_placeOf_11 : decode cX3_placeOf 11 = .ok (.iconst (-1), 1) := by decide +kernel
theorem dX3_placeOf_12 : decode cX3_placeOf 12 = .ok (.ireturn, 1) := by decide +kernel
theorem dX3_placeOf_13 : decode cX3_placeOf 13 = .ok (.iconst 0, 1) := by decide +kernel
theorem dX3_placeOf_14 : decode cX3_placeOf 14 = .ok (.istore_n 1, 1) := by decide +kernel
theorem dX3_placeOf_15 : decode cX3_placeOf 15 = .ok (.sipush 1000, 3) := by decide +kernel
theorem dX3_placeOf_18 : decode cX3_placeOf 18 = .ok (.istore_n 2, 1) := by decide +kernel
theorem dX3_placeOf_19 : decode cX3_placeOf 19 = .ok (.iload_n 2, 1) := by decide +kernel
theorem dX3_placeOf_20 : decode cX3_placeOf 20 = .ok (.ifCond .le 51, 3) := by decide +kernel
theorem dX3_placeOf_23 : decode cX3_placeOf 23 = .ok (.iload_n 0, 1) := by decide +kernel
theorem dX3_placeOf_24 : decode cX3_placeOf 24 = .ok (.iload_n 2, 1) := by decide +kernel
theorem dX3_placeOf_25 : decode cX3_placeOf 25 = .ok (.idiv, 1) := by decide +kernel
theorem dX3_placeOf_26 : decode cX3_placeOf 26 = .ok (.bipush 10, 2) := by decide +kernel
theorem dX3_placeOf_28 : decode cX3_placeOf 28 = .ok (.irem, 1) := by decide +kernel
theorem dX3_placeOf_29 : decode cX3_placeOf 29 = .ok (.istore_n 3, 1) := by decide +kernel
theorem dX3_placeOf_30 : decode cX3_placeOf 30 = .ok (.iload_n 3, 1) := by decide +kernel
theorem dX3_placeOf_31 : decode cX3_placeOf 31 = .ok (.ifCond .ne 11, 3) := by decide +kernel
theorem dX3_placeOf_34 : decode cX3_placeOf 34 = .ok (.iload_n 1, 1) := by decide +kernel
theorem dX3_placeOf_35 : decode cX3_placeOf 35 = .ok (.ifCond .le 7, 3) := by decide +kernel
theorem dX3_placeOf_38 : decode cX3_placeOf 38 = .ok (.iconst 1, 1) := by decide +kernel
theorem dX3_placeOf_39 : decode cX3_placeOf 39 = .ok (.goto 4, 3) := by decide +kernel
theorem dX3_placeOf_42 : decode cX3_placeOf 42 = .ok (.iconst 0, 1) := by decide +kernel
theorem dX3_placeOf_43 : decode cX3_placeOf 43 = .ok (.istore 4, 2) := by decide +kernel
theorem dX3_placeOf_45 : decode cX3_placeOf 45 = .ok (.iload_n 3, 1) := by decide +kernel
theorem dX3_placeOf_46 : decode cX3_placeOf 46 = .ok (.iconst 4, 1) := by decide +kernel
theorem dX3_placeOf_47 : decode cX3_placeOf 47 = .ok (.if_icmp .gt 8, 3) := by decide +kernel
theorem dX3_placeOf_50 : decode cX3_placeOf 50 = .ok (.iload 4, 2) := by decide +kernel
theorem dX3_placeOf_52 : decode cX3_placeOf 52 = .ok (.ifCond .eq 5, 3) := by decide +kernel
theorem dX3_placeOf_55 : decode cX3_placeOf 55 = .ok (.iconst (-1), 1) := by decide +kernel
theorem dX3_placeOf_56 : decode cX3_placeOf 56 = .ok (.ireturn, 1) := by decide +kernel
theorem dX3_placeOf_57 : decode cX3_placeOf 57 = .ok (.iload_n 1, 1) := by decide +kernel
theorem dX3_placeOf_58 : decode cX3_placeOf 58 = .ok (.iconst 4, 1) := by decide +kernel
theorem dX3_placeOf_59 : decode cX3_placeOf 59 = .ok (.imul, 1) := by decide +kernel
theorem dX3_placeOf_60 : decode cX3_placeOf 60 = .ok (.iload_n 3, 1) := by decide +kernel
theorem dX3_placeOf_61 : decode cX3_placeOf 61 = .ok (.iadd, 1) := by decide +kernel
theorem dX3_placeOf_62 : decode cX3_placeOf 62 = .ok (.istore_n 1, 1) := by decide +kernel
theorem dX3_placeOf_63 : decode cX3_placeOf 63 = .ok (.iload_n 2, 1) := by decide +kernel
theorem dX3_placeOf_64 : decode cX3_placeOf 64 = .ok (.bipush 10, 2) := by decide +kernel
theorem dX3_placeOf_66 : decode cX3_placeOf 66 = .ok (.idiv, 1) := by decide +kernel
theorem dX3_placeOf_67 : decode cX3_placeOf 67 = .ok (.istore_n 2, 1) := by decide +kernel
theorem dX3_placeOf_68 : decode cX3_placeOf 68 = .ok (.goto (-49), 3) := by decide +kernel
theorem dX3_placeOf_71 : decode cX3_placeOf 71 = .ok (.iload_n 1, 1) := by decide +kernel
theorem dX3_placeOf_72 : decode cX3_placeOf 72 = .ok (.ireturn, 1) := by decide +kernel
theorem dX3_isPlace_0 : decode cX3_isPlace 0 = .ok (.iload_n 0, 1) := by decide +kernel
theorem dX3_isPlace_1 : decode cX3_isPlace 1 = .ok (.ifCond .lt 14, 3) := by decide +kernel
theorem dX3_isPlace_4 : decode cX3_isPlace 4 = .ok (.iload_n 0, 1) := by decide +kernel
theorem dX3_isPlace_5 : decode cX3_isPlace 5 = .ok (.sipush 341, 3) := by decide +kernel
theorem dX3_isPlace_8 : decode cX3_isPlace 8 = .ok (.if_icmp .ge 7, 3) := by decide +kernel
theorem dX3_isPlace_11 : decode cX3_isPlace 11 = .ok (.iconst 1, 1) := by decide +kernel
theorem dX3_isPlace_12 : decode cX3_isPlace 12 = .ok (.goto 4, 3) := by decide +kernel
theorem dX3_isPlace_15 : decode cX3_isPlace 15 = .ok (.iconst 0, 1) := by decide +kernel
theorem dX3_isPlace_16 : decode cX3_isPlace 16 = .ok (.ireturn, 1) := by decide +kernel
theorem dX3_checkedPlace_0 : decode cX3_checkedPlace 0 = .ok (.iload_n 0, 1) := by decide +kernel
theorem dX3_checkedPlace_1 : decode cX3_checkedPlace 1 = .ok (.invokestatic 52, 3) := by decide +kernel
theorem dX3_checkedPlace_4 : decode cX3_checkedPlace 4 = .ok (.istore_n 1, 1) := by decide +kernel
theorem dX3_checkedPlace_5 : decode cX3_checkedPlace 5 = .ok (.iload_n 1, 1) := by decide +kernel
theorem dX3_checkedPlace_6 : decode cX3_checkedPlace 6 = .ok (.iconst (-1), 1) := by decide +kernel
theorem dX3_checkedPlace_7 : decode cX3_checkedPlace 7 = .ok (.if_icmp .ne 14, 3) := by decide +kernel
theorem dX3_checkedPlace_10 : decode cX3_checkedPlace 10 = .ok (.new 56, 3) := by decide +kernel
theorem dX3_checkedPlace_13 : decode cX3_checkedPlace 13 = .ok (.dup, 1) := by decide +kernel
theorem dX3_checkedPlace_14 : decode cX3_checkedPlace 14 = .ok (.ldc_w 260, 3) := by decide +kernel
theorem dX3_checkedPlace_17 : decode cX3_checkedPlace 17 = .ok (.invokespecial 60, 3) := by decide +kernel
theorem dX3_checkedPlace_20 : decode cX3_checkedPlace 20 = .ok (.athrow, 1) := by decide +kernel
theorem dX3_checkedPlace_21 : decode cX3_checkedPlace 21 = .ok (.iload_n 1, 1) := by decide +kernel
theorem dX3_checkedPlace_22 : decode cX3_checkedPlace 22 = .ok (.ireturn, 1) := by decide +kernel
theorem dX3_restBehind_0 : decode cX3_restBehind 0 = .ok (.iconst 1, 1) := by decide +kernel
theorem dX3_restBehind_1 : decode cX3_restBehind 1 = .ok (.istore_n 2, 1) := by decide +kernel
theorem dX3_restBehind_2 : decode cX3_restBehind 2 = .ok (.iconst 0, 1) := by decide +kernel
theorem dX3_restBehind_3 : decode cX3_restBehind 3 = .ok (.istore_n 3, 1) := by decide +kernel
theorem dX3_restBehind_4 : decode cX3_restBehind 4 = .ok (.iload_n 3, 1) := by decide +kernel
theorem dX3_restBehind_5 : decode cX3_restBehind 5 = .ok (.iconst 4, 1) := by decide +kernel
theorem dX3_restBehind_6 : decode cX3_restBehind 6 = .ok (.if_icmp .gt 25, 3) := by decide +kernel
theorem dX3_restBehind_9 : decode cX3_restBehind 9 = .ok (.iload_n 1, 1) := by decide +kernel
theorem dX3_restBehind_10 : decode cX3_restBehind 10 = .ok (.iload_n 2, 1) := by decide +kernel
theorem dX3_restBehind_11 : decode cX3_restBehind 11 = .ok (.idiv, 1) := by decide +kernel
theorem dX3_restBehind_12 : decode cX3_restBehind 12 = .ok (.iload_n 0, 1) := by decide +kernel
theorem dX3_restBehind_13 : decode cX3_restBehind 13 = .ok (.if_icmp .ne 7, 3) := by decide +kernel
theorem dX3_restBehind_16 : decode cX3_restBehind 16 = .ok (.iload_n 1, 1) := by decide +kernel
theorem dX3_restBehind_17 : decode cX3_restBehind 17 = .ok (.iload_n 2, 1) := by decide +kernel
theorem dX3_restBehind_18 : decode cX3_restBehind 18 = .ok (.irem, 1) := by decide +kernel
theorem dX3_restBehind_19 : decode cX3_restBehind 19 = .ok (.ireturn, 1) := by decide +kernel
theorem dX3_restBehind_20 : decode cX3_restBehind 20 = .ok (.iload_n 2, 1) := by decide +kernel
theorem dX3_restBehind_21 : decode cX3_restBehind 21 = .ok (.bipush 10, 2) := by decide +kernel
theorem dX3_restBehind_23 : decode cX3_restBehind 23 = .ok (.imul, 1) := by decide +kernel
theorem dX3_restBehind_24 : decode cX3_restBehind 24 = .ok (.istore_n 2, 1) := by decide +kernel
theorem dX3_restBehind_25 : decode cX3_restBehind 25 = .ok (.iinc 3 1, 3) := by decide +kernel
theorem dX3_restBehind_28 : decode cX3_restBehind 28 = .ok (.goto (-24), 3) := by decide +kernel
theorem dX3_restBehind_31 : decode cX3_restBehind 31 = .ok (.iconst (-1), 1) := by decide +kernel
theorem dX3_restBehind_32 : decode cX3_restBehind 32 = .ok (.ireturn, 1) := by decide +kernel
theorem dX3_isOwner_0 : decode cX3_isOwner 0 = .ok (.iload_n 0, 1) := by decide +kernel
theorem dX3_isOwner_1 : decode cX3_isOwner 1 = .ok (.ifCond .lt 12, 3) := by decide +kernel
theorem dX3_isOwner_4 : decode cX3_isOwner 4 = .ok (.iload_n 0, 1) := by decide +kernel
theorem dX3_isOwner_5 : decode cX3_isOwner 5 = .ok (.iconst 4, 1) := by decide +kernel
theorem dX3_isOwner_6 : decode cX3_isOwner 6 = .ok (.if_icmp .ge 7, 3) := by decide +kernel
theorem dX3_isOwner_9 : decode cX3_isOwner 9 = .ok (.iconst 1, 1) := by decide +kernel
theorem dX3_isOwner_10 : decode cX3_isOwner 10 = .ok (.goto 4, 3) := by decide +kernel
theorem dX3_isOwner_13 : decode cX3_isOwner 13 = .ok (.iconst 0, 1) := by decide +kernel
theorem dX3_isOwner_14 : decode cX3_isOwner 14 = .ok (.ireturn, 1) := by decide +kernel
theorem dX3_checkOwner_0 : decode cX3_checkOwner 0 = .ok (.iload_n 0, 1) := by decide +kernel
theorem dX3_checkOwner_1 : decode cX3_checkOwner 1 = .ok (.invokestatic 207, 3) := by decide +kernel
theorem dX3_checkOwner_4 : decode cX3_checkOwner 4 = .ok (.ifCond .ne 14, 3) := by decide +kernel
theorem dX3_checkOwner_7 : decode cX3_checkOwner 7 = .ok (.new 56, 3) := by decide +kernel
theorem dX3_checkOwner_10 : decode cX3_checkOwner 10 = .ok (.dup, 1) := by decide +kernel
theorem dX3_checkOwner_11 : decode cX3_checkOwner 11 = .ok (.ldc_w 262, 3) := by decide +kernel
theorem dX3_checkOwner_14 : decode cX3_checkOwner 14 = .ok (.invokespecial 60, 3) := by decide +kernel
theorem dX3_checkOwner_17 : decode cX3_checkOwner 17 = .ok (.athrow, 1) := by decide +kernel
theorem dX3_checkOwner_18 : decode cX3_checkOwner 18 = .ok (.return_, 1) := by decide +kernel
theorem dX3_usedBy_0 : decode cX3_usedBy 0 = .ok (.iload_n 1, 1) := by decide +kernel
theorem dX3_usedBy_1 : decode cX3_usedBy 1 = .ok (.invokestatic 207, 3) := by decide +kernel
theorem dX3_usedBy_4 : decode cX3_usedBy 4 = .ok (.ifCond .eq 12, 3) := by decide +kernel
theorem dX3_usedBy_7 : decode cX3_usedBy 7 = .ok (.aload_n 0, 1) := by decide +kernel
theorem dX3_usedBy_8 : decode cX3_usedBy 8 = .ok (.getfield 27, 3) := by decide +kernel
theorem dX3_usedBy_11 : decode cX3_usedBy 11 = .ok (.iload_n 1, 1) := by decide +kernel
theorem dX3_usedBy_12 : decode cX3_usedBy 12 = .ok (.iaload, 1) := by decide +kernel
theorem dX3_usedBy_13 : decode cX3_usedBy 13 = .ok (.goto 4, 3) := by decide +kernel
theorem dX3_usedBy_16 : decode cX3_usedBy 16 = .ok (.iconst 0, 1) := by decide +kernel
theorem dX3_usedBy_17 : decode cX3_usedBy 17 = .ok (.ireturn, 1) := by decide +kernel
theorem dX3_quotaOf_0 : decode cX3_quotaOf 0 = .ok (.iload_n 1, 1) := by decide +kernel
theorem dX3_quotaOf_1 : decode cX3_quotaOf 1 = .ok (.invokestatic 207, 3) := by decide +kernel
theorem dX3_quotaOf_4 : decode cX3_quotaOf 4 = .ok (.ifCond .eq 12, 3) := by decide +kernel
theorem dX3_quotaOf_7 : decode cX3_quotaOf 7 = .ok (.aload_n 0, 1) := by decide +kernel
theorem dX3_quotaOf_8 : decode cX3_quotaOf 8 = .ok (.getfield 31, 3) := by decide +kernel
theorem dX3_quotaOf_11 : decode cX3_quotaOf 11 = .ok (.iload_n 1, 1) := by decide +kernel
theorem dX3_quotaOf_12 : decode cX3_quotaOf 12 = .ok (.iaload, 1) := by decide +kernel
theorem dX3_quotaOf_13 : decode cX3_quotaOf 13 = .ok (.goto 4, 3) := by decide +kernel
theorem dX3_quotaOf_16 : decode cX3_quotaOf 16 = .ok (.iconst 0, 1) := by decide +kernel
theorem dX3_quotaOf_17 : decode cX3_quotaOf 17 = .ok (.ireturn, 1) := by decide +kernel
theorem dX3_use_0 : decode cX3_use 0 = .ok (.iload_n 1, 1) := by decide +kernel
theorem dX3_use_1 : decode cX3_use 1 = .ok (.invokestatic 207, 3) := by decide +kernel
theorem dX3_use_4 : decode cX3_use 4 = .ok (.ifCond .eq 13, 3) := by decide +kernel
theorem dX3_use_7 : decode cX3_use 7 = .ok (.aload_n 0, 1) := by decide +kernel
theorem dX3_use_8 : decode cX3_use 8 = .ok (.getfield 27, 3) := by decide +kernel
theorem dX3_use_11 : decode cX3_use 11 = .ok (.iload_n 1, 1) := by decide +kernel
theorem dX3_use_12 : decode cX3_use 12 = .ok (.dup2, 1) := by decide +kernel
theorem dX3_use_13 : decode cX3_use 13 = .ok (.iaload, 1) := by decide +kernel
theorem dX3_use_14 : decode cX3_use 14 = .ok (.iload_n 2, 1) := by decide +kernel
theorem dX3_use_15 : decode cX3_use 15 = .ok (.iadd, 1) := by decide +kernel
theorem dX3_use_16 : decode cX3_use 16 = .ok (.iastore, 1) := by decide +kernel
theorem dX3_use_17 : decode cX3_use 17 = .ok (.return_, 1) := by decide +kernel
theorem dX3_allBytes_0 : decode cX3_allBytes 0 = .ok (.iconst 0, 1) := by decide +kernel
theorem dX3_allBytes_1 : decode cX3_allBytes 1 = .ok (.istore_n 1, 1) := by decide +kernel
theorem dX3_allBytes_2 : decode cX3_allBytes 2 = .ok (.iconst 0, 1) := by decide +kernel
theorem dX3_allBytes_3 : decode cX3_allBytes 3 = .ok (.istore_n 2, 1) := by decide +kernel
theorem dX3_allBytes_4 : decode cX3_allBytes 4 = .ok (.iload_n 2, 1) := by decide +kernel
theorem dX3_allBytes_5 : decode cX3_allBytes 5 = .ok (.iconst 4, 1) := by decide +kernel
theorem dX3_allBytes_6 : decode cX3_allBytes 6 = .ok (.if_icmp .ge 17, 3) := by decide +kernel
theorem dX3_allBytes_9 : decode cX3_allBytes 9 = .ok (.iload_n 1, 1) := by decide +kernel
theorem dX3_allBytes_10 : decode cX3_allBytes 10 = .ok (.aload_n 0, 1) := by decide +kernel
theorem dX3_allBytes_11 : decode cX3_allBytes 11 = .ok (.iload_n 2, 1) := by decide +kernel
theorem dX3_allBytes_12 : decode cX3_allBytes 12 = .ok (.invokevirtual 130, 3) := by decide +kernel
theorem dX3_allBytes_15 : decode cX3_allBytes 15 = .ok (.iadd, 1) := by decide +kernel
theorem dX3_allBytes_16 : decode cX3_allBytes 16 = .ok (.istore_n 1, 1) := by decide +kernel
theorem dX3_allBytes_17 : decode cX3_allBytes 17 = .ok (.iinc 2 1, 3) := by decide +kernel
theorem dX3_allBytes_20 : decode cX3_allBytes 20 = .ok (.goto (-16), 3) := by decide +kernel
theorem dX3_allBytes_23 : decode cX3_allBytes 23 = .ok (.iload_n 1, 1) := by decide +kernel
theorem dX3_allBytes_24 : decode cX3_allBytes 24 = .ok (.ireturn, 1) := by decide +kernel
theorem dX3_layerAt_0 : decode cX3_layerAt 0 = .ok (.iload_n 1, 1) := by decide +kernel
theorem dX3_layerAt_1 : decode cX3_layerAt 1 = .ok (.ifCond .lt 21, 3) := by decide +kernel
theorem dX3_layerAt_4 : decode cX3_layerAt 4 = .ok (.iload_n 1, 1) := by decide +kernel
theorem dX3_layerAt_5 : decode cX3_layerAt 5 = .ok (.aload_n 0, 1) := by decide +kernel
theorem dX3_layerAt_6 : decode cX3_layerAt 6 = .ok (.getfield 11, 3) := by decide +kernel
theorem dX3_layerAt_9 : decode cX3_layerAt 9 = .ok (.arraylength, 1) := by decide +kernel
theorem dX3_layerAt_10 : decode cX3_layerAt 10 = .ok (.if_icmp .ge 12, 3) := by decide +kernel
theorem dX3_layerAt_13 : decode cX3_layerAt 13 = .ok (.aload_n 0, 1) := by decide +kernel
theorem dX3_layerAt_14 : decode cX3_layerAt 14 = .ok (.getfield 11, 3) := by decide +kernel
theorem dX3_layerAt_17 : decode cX3_layerAt 17 = .ok (.iload_n 1, 1) := by decide +kernel
theorem dX3_layerAt_18 : decode cX3_layerAt 18 = .ok (.aaload, 1) := by decide +kernel
theorem dX3_layerAt_19 : decode cX3_layerAt 19 = .ok (.goto 4, 3) := by decide +kernel
theorem dX3_layerAt_22 : decode cX3_layerAt 22 = .ok (.aconst_null, 1) := by decide +kernel
theorem dX3_layerAt_23 : decode cX3_layerAt 23 = .ok (.areturn, 1) := by decide +kernel
theorem dX3_checkedLayer_0 : decode cX3_checkedLayer 0 = .ok (.aload_n 0, 1) := by decide +kernel
theorem dX3_checkedLayer_1 : decode cX3_checkedLayer 1 = .ok (.iload_n 1, 1) := by decide +kernel
theorem dX3_checkedLayer_2 : decode cX3_checkedLayer 2 = .ok (.invokevirtual 61, 3) := by decide +kernel
theorem dX3_checkedLayer_5 : decode cX3_checkedLayer 5 = .ok (.astore_n 2, 1) := by decide +kernel
theorem dX3_checkedLayer_6 : decode cX3_checkedLayer 6 = .ok (.aload_n 2, 1) := by decide +kernel
theorem dX3_checkedLayer_7 : decode cX3_checkedLayer 7 = .ok (.ifnonnull 13, 3) := by decide +kernel
theorem dX3_checkedLayer_10 : decode cX3_checkedLayer 10 = .ok (.new 65, 3) := by decide +kernel
theorem dX3_checkedLayer_13 : decode cX3_checkedLayer 13 = .ok (.dup, 1) := by decide +kernel
theorem dX3_checkedLayer_14 : decode cX3_checkedLayer 14 = .ok (.ldc 67, 2) := by decide +kernel
theorem dX3_checkedLayer_16 : decode cX3_checkedLayer 16 = .ok (.invokespecial 69, 3) := by decide +kernel
theorem dX3_checkedLayer_19 : decode cX3_checkedLayer 19 = .ok (.athrow, 1) := by decide +kernel
theorem dX3_checkedLayer_20 : decode cX3_checkedLayer 20 = .ok (.aload_n 2, 1) := by decide +kernel
theorem dX3_checkedLayer_21 : decode cX3_checkedLayer 21 = .ok (.areturn, 1) := by decide +kernel
theorem dX3_mountThere_0 : decode cX3_mountThere 0 = .ok (.iload_n 1, 1) := by decide +kernel
theorem dX3_mountThere_1 : decode cX3_mountThere 1 = .ok (.ifCond .lt 12, 3) := by decide +kernel
theorem dX3_mountThere_4 : decode cX3_mountThere 4 = .ok (.iload_n 1, 1) := by decide +kernel
theorem dX3_mountThere_5 : decode cX3_mountThere 5 = .ok (.aload_n 0, 1) := by decide +kernel
theorem dX3_mountThere_6 : decode cX3_mountThere 6 = .ok (.getfield 17, 3) := by decide +kernel
theorem dX3_mountThere_9 : decode cX3_mountThere 9 = .ok (.arraylength, 1) := by decide +kernel
theorem dX3_mountThere_10 : decode cX3_mountThere 10 = .ok (.if_icmp .lt 5, 3) := by decide +kernel
theorem dX3_mountThere_13 : decode cX3_mountThere 13 = .ok (.aconst_null, 1) := by decide +kernel
theorem dX3_mountThere_14 : decode cX3_mountThere 14 = .ok (.areturn, 1) := by decide +kernel
theorem dX3_mountThere_15 : decode cX3_mountThere 15 = .ok (.aload_n 0, 1) := by decide +kernel
theorem dX3_mountThere_16 : decode cX3_mountThere 16 = .ok (.getfield 17, 3) := by decide +kernel
theorem dX3_mountThere_19 : decode cX3_mountThere 19 = .ok (.iload_n 1, 1) := by decide +kernel
theorem dX3_mountThere_20 : decode cX3_mountThere 20 = .ok (.aaload, 1) := by decide +kernel
theorem dX3_mountThere_21 : decode cX3_mountThere 21 = .ok (.astore_n 2, 1) := by decide +kernel
theorem dX3_mountThere_22 : decode cX3_mountThere 22 = .ok (.aload_n 2, 1) := by decide +kernel
theorem dX3_mountThere_23 : decode cX3_mountThere 23 = .ok (.ifnull 14, 3) := by decide +kernel
theorem dX3_mountThere_26 : decode cX3_mountThere 26 = .ok (.aload_n 2, 1) := by decide +kernel
theorem dX3_mountThere_27 : decode cX3_mountThere 27 = .ok (.getfield 97, 3) := by decide +kernel
theorem dX3_mountThere_30 : decode cX3_mountThere 30 = .ok (.ifCond .eq 7, 3) := by decide +kernel
theorem dX3_mountThere_33 : decode cX3_mountThere 33 = .ok (.aload_n 2, 1) := by decide +kernel

theorem dL_addLayer_0 : decode cL_addLayer 0 = .ok (.aload_n 1, 1) := by decide +kernel
theorem dL_addLayer_1 : decode cL_addLayer 1 = .ok (.iconst 0, 1) := by decide +kernel
theorem dL_addLayer_2 : decode cL_addLayer 2 = .ok (.aload_n 0, 1) := by decide +kernel
theorem dL_addLayer_3 : decode cL_addLayer 3 = .ok (.invokevirtual 7, 3) := by decide +kernel
theorem dL_addLayer_6 : decode cL_addLayer 6 = .ok (.i2l, 1) := by decide +kernel
theorem dL_addLayer_7 : decode cL_addLayer 7 = .ok (.lastore, 1) := by decide +kernel
theorem dL_addLayer_8 : decode cL_addLayer 8 = .ok (.goto 6, 3) := by decide +kernel
theorem dL_addLayer_11 : decode cL_addLayer 11 = .ok (.astore_n 2, 1) := by decide +kernel
theorem dL_addLayer_12 : decode cL_addLayer 12 = .ok (.iconst 1, 1) := by decide +kernel
theorem dL_addLayer_13 : decode cL_addLayer 13 = .ok (.ireturn, 1) := by decide +kernel
theorem dL_addLayer_14 : decode cL_addLayer 14 = .ok (.iconst 0, 1) := by decide +kernel
theorem dL_addLayer_15 : decode cL_addLayer 15 = .ok (.ireturn, 1) := by decide +kernel
theorem dL_mount_0 : decode cL_mount 0 = .ok (.aload 4, 2) := by decide +kernel
theorem dL_mount_2 : decode cL_mount 2 = .ok (.iconst 0, 1) := by decide +kernel
theorem dL_mount_3 : decode cL_mount 3 = .ok (.aload_n 0, 1) := by decide +kernel
theorem dL_mount_4 : decode cL_mount 4 = .ok (.iload_n 1, 1) := by decide +kernel
theorem dL_mount_5 : decode cL_mount 5 = .ok (.iload_n 2, 1) := by decide +kernel
theorem dL_mount_6 : decode cL_mount 6 = .ok (.iload_n 3, 1) := by decide +kernel
theorem dL_mount_7 : decode cL_mount 7 = .ok (.invokevirtual 15, 3) := by decide +kernel
theorem dL_mount_10 : decode cL_mount 10 = .ok (.i2l, 1) := by decide +kernel
theorem dL_mount_11 : decode cL_mount 11 = .ok (.lastore, 1) := by decide +kernel
theorem dL_mount_12 : decode cL_mount 12 = .ok (.goto 19, 3) := by decide +kernel
theorem dL_mount_15 : decode cL_mount 15 = .ok (.astore 5, 2) := by decide +kernel
theorem dL_mount_17 : decode cL_mount 17 = .ok (.iconst 1, 1) := by decide +kernel
theorem dL_mount_18 : decode cL_mount 18 = .ok (.ireturn, 1) := by decide +kernel
theorem dL_mount_19 : decode cL_mount 19 = .ok (.astore 5, 2) := by decide +kernel
theorem dL_mount_21 : decode cL_mount 21 = .ok (.iconst 2, 1) := by decide +kernel
theorem dL_mount_22 : decode cL_mount 22 = .ok (.ireturn, 1) := by decide +kernel
theorem dL_mount_23 : decode cL_mount 23 = .ok (.astore 5, 2) := by decide +kernel
theorem dL_mount_25 : decode cL_mount 25 = .ok (.iconst 3, 1) := by decide +kernel
theorem dL_mount_26 : decode cL_mount 26 = .ok (.ireturn, 1) := by decide +kernel
theorem dL_mount_27 : decode cL_mount 27 = .ok (.astore 5, 2) := by decide +kernel
theorem dL_mount_29 : decode cL_mount 29 = .ok (.iconst 4, 1) := by decide +kernel
theorem dL_mount_30 : decode cL_mount 30 = .ok (.ireturn, 1) := by decide +kernel
theorem dL_mount_31 : decode cL_mount 31 = .ok (.iconst 0, 1) := by decide +kernel
theorem dL_mount_32 : decode cL_mount 32 = .ok (.ireturn, 1) := by decide +kernel
theorem dL_unmount_0 : decode cL_unmount 0 = .ok (.aload_n 2, 1) := by decide +kernel
theorem dL_unmount_1 : decode cL_unmount 1 = .ok (.iconst 0, 1) := by decide +kernel
theorem dL_unmount_2 : decode cL_unmount 2 = .ok (.aload_n 0, 1) := by decide +kernel
theorem dL_unmount_3 : decode cL_unmount 3 = .ok (.iload_n 1, 1) := by decide +kernel
theorem dL_unmount_4 : decode cL_unmount 4 = .ok (.invokevirtual 25, 3) := by decide +kernel
theorem dL_unmount_7 : decode cL_unmount 7 = .ok (.i2l, 1) := by decide +kernel
theorem dL_unmount_8 : decode cL_unmount 8 = .ok (.lastore, 1) := by decide +kernel
theorem dL_unmount_9 : decode cL_unmount 9 = .ok (.goto 6, 3) := by decide +kernel
theorem dL_unmount_12 : decode cL_unmount 12 = .ok (.astore_n 3, 1) := by decide +kernel
theorem dL_unmount_13 : decode cL_unmount 13 = .ok (.iconst 1, 1) := by decide +kernel
theorem dL_unmount_14 : decode cL_unmount 14 = .ok (.ireturn, 1) := by decide +kernel
theorem dL_unmount_15 : decode cL_unmount 15 = .ok (.iconst 0, 1) := by decide +kernel
theorem dL_unmount_16 : decode cL_unmount 16 = .ok (.ireturn, 1) := by decide +kernel
theorem dL_move_0 : decode cL_move 0 = .ok (.aload_n 3, 1) := by decide +kernel
theorem dL_move_1 : decode cL_move 1 = .ok (.iconst 0, 1) := by decide +kernel
theorem dL_move_2 : decode cL_move 2 = .ok (.aload_n 0, 1) := by decide +kernel
theorem dL_move_3 : decode cL_move 3 = .ok (.iload_n 1, 1) := by decide +kernel
theorem dL_move_4 : decode cL_move 4 = .ok (.iload_n 2, 1) := by decide +kernel
theorem dL_move_5 : decode cL_move 5 = .ok (.invokevirtual 29, 3) := by decide +kernel
theorem dL_move_8 : decode cL_move 8 = .ok (.i2l, 1) := by decide +kernel
theorem dL_move_9 : decode cL_move 9 = .ok (.lastore, 1) := by decide +kernel
theorem dL_move_10 : decode cL_move 10 = .ok (.goto 11, 3) := by decide +kernel
theorem dL_move_13 : decode cL_move 13 = .ok (.astore 4, 2) := by decide +kernel
theorem dL_move_15 : decode cL_move 15 = .ok (.iconst 1, 1) := by decide +kernel
theorem dL_move_16 : decode cL_move 16 = .ok (.ireturn, 1) := by decide +kernel
theorem dL_move_17 : decode cL_move 17 = .ok (.astore 4, 2) := by decide +kernel
theorem dL_move_19 : decode cL_move 19 = .ok (.iconst 2, 1) := by decide +kernel
theorem dL_move_20 : decode cL_move 20 = .ok (.ireturn, 1) := by decide +kernel
theorem dL_move_21 : decode cL_move 21 = .ok (.iconst 0, 1) := by decide +kernel
theorem dL_move_22 : decode cL_move 22 = .ok (.ireturn, 1) := by decide +kernel
theorem dL_setCrossing_0 : decode cL_setCrossing 0 = .ok (.aload_n 3, 1) := by decide +kernel
theorem dL_setCrossing_1 : decode cL_setCrossing 1 = .ok (.iconst 0, 1) := by decide +kernel
theorem dL_setCrossing_2 : decode cL_setCrossing 2 = .ok (.aload_n 0, 1) := by decide +kernel
theorem dL_setCrossing_3 : decode cL_setCrossing 3 = .ok (.iload_n 1, 1) := by decide +kernel
theorem dL_setCrossing_4 : decode cL_setCrossing 4 = .ok (.iload_n 2, 1) := by decide +kernel
theorem dL_setCrossing_5 : decode cL_setCrossing 5 = .ok (.invokevirtual 33, 3) := by decide +kernel
theorem dL_setCrossing_8 : decode cL_setCrossing 8 = .ok (.ifCond .eq 7, 3) := by decide +kernel
theorem dL_setCrossing_11 : decode cL_setCrossing 11 = .ok (.lconst 1, 1) := by decide +kernel
theorem dL_setCrossing_12 : decode cL_setCrossing 12 = .ok (.goto 4, 3) := by decide +kernel
theorem dL_setCrossing_15 : decode cL_setCrossing 15 = .ok (.lconst 0, 1) := by decide +kernel
theorem dL_setCrossing_16 : decode cL_setCrossing 16 = .ok (.lastore, 1) := by decide +kernel
theorem dL_setCrossing_17 : decode cL_setCrossing 17 = .ok (.goto 7, 3) := by decide +kernel
theorem dL_setCrossing_20 : decode cL_setCrossing 20 = .ok (.astore 4, 2) := by decide +kernel
theorem dL_setCrossing_22 : decode cL_setCrossing 22 = .ok (.iconst 1, 1) := by decide +kernel
theorem dL_setCrossing_23 : decode cL_setCrossing 23 = .ok (.ireturn, 1) := by decide +kernel
theorem dL_setCrossing_24 : decode cL_setCrossing 24 = .ok (.iconst 0, 1) := by decide +kernel
theorem dL_setCrossing_25 : decode cL_setCrossing 25 = .ok (.ireturn, 1) := by decide +kernel
theorem dL_served_0 : decode cL_served 0 = .ok (.aload_n 2, 1) := by decide +kernel
theorem dL_served_1 : decode cL_served 1 = .ok (.iconst 0, 1) := by decide +kernel
theorem dL_served_2 : decode cL_served 2 = .ok (.aload_n 0, 1) := by decide +kernel
theorem dL_served_3 : decode cL_served 3 = .ok (.iload_n 1, 1) := by decide +kernel
theorem dL_served_4 : decode cL_served 4 = .ok (.invokevirtual 37, 3) := by decide +kernel
theorem dL_served_7 : decode cL_served 7 = .ok (.i2l, 1) := by decide +kernel
theorem dL_served_8 : decode cL_served 8 = .ok (.lastore, 1) := by decide +kernel
theorem dL_served_9 : decode cL_served 9 = .ok (.goto 9, 3) := by decide +kernel
theorem dL_served_12 : decode cL_served 12 = .ok (.astore_n 3, 1) := by decide +kernel
theorem dL_served_13 : decode cL_served 13 = .ok (.iconst 1, 1) := by decide +kernel
theorem dL_served_14 : decode cL_served 14 = .ok (.ireturn, 1) := by decide +kernel
theorem dL_served_15 : decode cL_served 15 = .ok (.astore_n 3, 1) := by decide +kernel
theorem dL_served_16 : decode cL_served 16 = .ok (.iconst 2, 1) := by decide +kernel
theorem dL_served_17 : decode cL_served 17 = .ok (.ireturn, 1) := by decide +kernel
theorem dL_served_18 : decode cL_served 18 = .ok (.iconst 0, 1) := by decide +kernel
theorem dL_served_19 : decode cL_served 19 = .ok (.ireturn, 1) := by decide +kernel
theorem dL_write_0 : decode cL_write 0 = .ok (.aload 4, 2) := by decide +kernel
theorem dL_write_2 : decode cL_write 2 = .ok (.iconst 0, 1) := by decide +kernel
theorem dL_write_3 : decode cL_write 3 = .ok (.aload_n 0, 1) := by decide +kernel
theorem dL_write_4 : decode cL_write 4 = .ok (.iload_n 1, 1) := by decide +kernel
theorem dL_write_5 : decode cL_write 5 = .ok (.iload_n 2, 1) := by decide +kernel
theorem dL_write_6 : decode cL_write 6 = .ok (.iload_n 3, 1) := by decide +kernel
theorem dL_write_7 : decode cL_write 7 = .ok (.invokevirtual 42, 3) := by decide +kernel
theorem dL_write_10 : decode cL_write 10 = .ok (.i2l, 1) := by decide +kernel
theorem dL_write_11 : decode cL_write 11 = .ok (.lastore, 1) := by decide +kernel
theorem dL_write_12 : decode cL_write 12 = .ok (.goto 15, 3) := by decide +kernel
theorem dL_write_15 : decode cL_write 15 = .ok (.astore 5, 2) := by decide +kernel
theorem dL_write_17 : decode cL_write 17 = .ok (.iconst 1, 1) := by decide +kernel
theorem dL_write_18 : decode cL_write 18 = .ok (.ireturn, 1) := by decide +kernel
theorem dL_write_19 : decode cL_write 19 = .ok (.astore 5, 2) := by decide +kernel
theorem dL_write_21 : decode cL_write 21 = .ok (.iconst 2, 1) := by decide +kernel
theorem dL_write_22 : decode cL_write 22 = .ok (.ireturn, 1) := by decide +kernel
theorem dL_write_23 : decode cL_write 23 = .ok (.astore 5, 2) := by decide +kernel
theorem dL_write_25 : decode cL_write 25 = .ok (.iconst 3, 1) := by decide +kernel
theorem dL_write_26 : decode cL_write 26 = .ok (.ireturn, 1) := by decide +kernel
theorem dL_write_27 : decode cL_write 27 = .ok (.iconst 0, 1) := by decide +kernel
theorem dL_write_28 : decode cL_write 28 = .ok (.ireturn, 1) := by decide +kernel
theorem dL_link_0 : decode cL_link 0 = .ok (.aload 4, 2) := by decide +kernel
theorem dL_link_2 : decode cL_link 2 = .ok (.iconst 0, 1) := by decide +kernel
theorem dL_link_3 : decode cL_link 3 = .ok (.aload_n 0, 1) := by decide +kernel
theorem dL_link_4 : decode cL_link 4 = .ok (.iload_n 1, 1) := by decide +kernel
theorem dL_link_5 : decode cL_link 5 = .ok (.iload_n 2, 1) := by decide +kernel
theorem dL_link_6 : decode cL_link 6 = .ok (.iload_n 3, 1) := by decide +kernel
theorem dL_link_7 : decode cL_link 7 = .ok (.invokevirtual 45, 3) := by decide +kernel
theorem dL_link_10 : decode cL_link 10 = .ok (.i2l, 1) := by decide +kernel
theorem dL_link_11 : decode cL_link 11 = .ok (.lastore, 1) := by decide +kernel
theorem dL_link_12 : decode cL_link 12 = .ok (.goto 11, 3) := by decide +kernel
theorem dL_link_15 : decode cL_link 15 = .ok (.astore 5, 2) := by decide +kernel
theorem dL_link_17 : decode cL_link 17 = .ok (.iconst 1, 1) := by decide +kernel
theorem dL_link_18 : decode cL_link 18 = .ok (.ireturn, 1) := by decide +kernel
theorem dL_link_19 : decode cL_link 19 = .ok (.astore 5, 2) := by decide +kernel
theorem dL_link_21 : decode cL_link 21 = .ok (.iconst 2, 1) := by decide +kernel
theorem dL_link_22 : decode cL_link 22 = .ok (.ireturn, 1) := by decide +kernel
theorem dL_link_23 : decode cL_link 23 = .ok (.iconst 0, 1) := by decide +kernel
theorem dL_link_24 : decode cL_link 24 = .ok (.ireturn, 1) := by decide +kernel
theorem dL_remove_0 : decode cL_remove 0 = .ok (.aload_n 2, 1) := by decide +kernel
theorem dL_remove_1 : decode cL_remove 1 = .ok (.iconst 0, 1) := by decide +kernel
theorem dL_remove_2 : decode cL_remove 2 = .ok (.aload_n 0, 1) := by decide +kernel
theorem dL_remove_3 : decode cL_remove 3 = .ok (.iload_n 1, 1) := by decide +kernel
theorem dL_remove_4 : decode cL_remove 4 = .ok (.invokevirtual 48, 3) := by decide +kernel
theorem dL_remove_7 : decode cL_remove 7 = .ok (.i2l, 1) := by decide +kernel
theorem dL_remove_8 : decode cL_remove 8 = .ok (.lastore, 1) := by decide +kernel
theorem dL_remove_9 : decode cL_remove 9 = .ok (.goto 9, 3) := by decide +kernel
theorem dL_remove_12 : decode cL_remove 12 = .ok (.astore_n 3, 1) := by decide +kernel
theorem dL_remove_13 : decode cL_remove 13 = .ok (.iconst 1, 1) := by decide +kernel
theorem dL_remove_14 : decode cL_remove 14 = .ok (.ireturn, 1) := by decide +kernel
theorem dL_remove_15 : decode cL_remove 15 = .ok (.astore_n 3, 1) := by decide +kernel
theorem dL_remove_16 : decode cL_remove 16 = .ok (.iconst 2, 1) := by decide +kernel
theorem dL_remove_17 : decode cL_remove 17 = .ok (.ireturn, 1) := by decide +kernel
theorem dL_remove_18 : decode cL_remove 18 = .ok (.iconst 0, 1) := by decide +kernel
theorem dL_remove_19 : decode cL_remove 19 = .ok (.ireturn, 1) := by decide +kernel
theorem dL_shows_0 : decode cL_shows 0 = .ok (.aload_n 2, 1) := by decide +kernel
theorem dL_shows_1 : decode cL_shows 1 = .ok (.iconst 0, 1) := by decide +kernel
theorem dL_shows_2 : decode cL_shows 2 = .ok (.aload_n 0, 1) := by decide +kernel
theorem dL_shows_3 : decode cL_shows 3 = .ok (.iload_n 1, 1) := by decide +kernel
theorem dL_shows_4 : decode cL_shows 4 = .ok (.invokevirtual 51, 3) := by decide +kernel
theorem dL_shows_7 : decode cL_shows 7 = .ok (.i2l, 1) := by decide +kernel
theorem dL_shows_8 : decode cL_shows 8 = .ok (.lastore, 1) := by decide +kernel
theorem dL_shows_9 : decode cL_shows 9 = .ok (.goto 6, 3) := by decide +kernel
theorem dL_shows_12 : decode cL_shows 12 = .ok (.astore_n 3, 1) := by decide +kernel
theorem dL_shows_13 : decode cL_shows 13 = .ok (.iconst 1, 1) := by decide +kernel
theorem dL_shows_14 : decode cL_shows 14 = .ok (.ireturn, 1) := by decide +kernel
theorem dL_shows_15 : decode cL_shows 15 = .ok (.iconst 0, 1) := by decide +kernel
theorem dL_shows_16 : decode cL_shows 16 = .ok (.ireturn, 1) := by decide +kernel
theorem dL_layerOf_0 : decode cL_layerOf 0 = .ok (.aload_n 2, 1) := by decide +kernel
theorem dL_layerOf_1 : decode cL_layerOf 1 = .ok (.iconst 0, 1) := by decide +kernel
theorem dL_layerOf_2 : decode cL_layerOf 2 = .ok (.aload_n 0, 1) := by decide +kernel
theorem dL_layerOf_3 : decode cL_layerOf 3 = .ok (.iload_n 1, 1) := by decide +kernel
theorem dL_layerOf_4 : decode cL_layerOf 4 = .ok (.invokevirtual 55, 3) := by decide +kernel
theorem dL_layerOf_7 : decode cL_layerOf 7 = .ok (.i2l, 1) := by decide +kernel
theorem dL_layerOf_8 : decode cL_layerOf 8 = .ok (.lastore, 1) := by decide +kernel
theorem dL_layerOf_9 : decode cL_layerOf 9 = .ok (.goto 9, 3) := by decide +kernel
theorem dL_layerOf_12 : decode cL_layerOf 12 = .ok (.astore_n 3, 1) := by decide +kernel
theorem dL_layerOf_13 : decode cL_layerOf 13 = .ok (.iconst 1, 1) := by decide +kernel
theorem dL_layerOf_14 : decode cL_layerOf 14 = .ok (.ireturn, 1) := by decide +kernel
theorem dL_layerOf_15 : decode cL_layerOf 15 = .ok (.astore_n 3, 1) := by decide +kernel
theorem dL_layerOf_16 : decode cL_layerOf 16 = .ok (.iconst 2, 1) := by decide +kernel
theorem dL_layerOf_17 : decode cL_layerOf 17 = .ok (.ireturn, 1) := by decide +kernel
theorem dL_layerOf_18 : decode cL_layerOf 18 = .ok (.iconst 0, 1) := by decide +kernel
theorem dL_layerOf_19 : decode cL_layerOf 19 = .ok (.ireturn, 1) := by decide +kernel
theorem dL_end_0 : decode cL_end 0 = .ok (.aload_n 2, 1) := by decide +kernel
theorem dL_end_1 : decode cL_end 1 = .ok (.iconst 0, 1) := by decide +kernel
theorem dL_end_2 : decode cL_end 2 = .ok (.aload_n 0, 1) := by decide +kernel
theorem dL_end_3 : decode cL_end 3 = .ok (.iload_n 1, 1) := by decide +kernel
theorem dL_end_4 : decode cL_end 4 = .ok (.invokevirtual 58, 3) := by decide +kernel
theorem dL_end_7 : decode cL_end 7 = .ok (.i2l, 1) := by decide +kernel
theorem dL_end_8 : decode cL_end 8 = .ok (.lastore, 1) := by decide +kernel
theorem dL_end_9 : decode cL_end 9 = .ok (.goto 12, 3) := by decide +kernel
theorem dL_end_12 : decode cL_end 12 = .ok (.astore_n 3, 1) := by decide +kernel
theorem dL_end_13 : decode cL_end 13 = .ok (.iconst 1, 1) := by decide +kernel
theorem dL_end_14 : decode cL_end 14 = .ok (.ireturn, 1) := by decide +kernel
theorem dL_end_15 : decode cL_end 15 = .ok (.astore_n 3, 1) := by decide +kernel
theorem dL_end_16 : decode cL_end 16 = .ok (.iconst 2, 1) := by decide +kernel
theorem dL_end_17 : decode cL_end 17 = .ok (.ireturn, 1) := by decide +kernel
theorem dL_end_18 : decode cL_end 18 = .ok (.astore_n 3, 1) := by decide +kernel
theorem dL_end_19 : decode cL_end 19 = .ok (.iconst 3, 1) := by decide +kernel
theorem dL_end_20 : decode cL_end 20 = .ok (.ireturn, 1) := by decide +kernel
theorem dL_end_21 : decode cL_end 21 = .ok (.iconst 0, 1) := by decide +kernel
theorem dL_end_22 : decode cL_end 22 = .ok (.ireturn, 1) := by decide +kernel
theorem dL_size_0 : decode cL_size 0 = .ok (.aload_n 2, 1) := by decide +kernel
theorem dL_size_1 : decode cL_size 1 = .ok (.iconst 0, 1) := by decide +kernel
theorem dL_size_2 : decode cL_size 2 = .ok (.aload_n 0, 1) := by decide +kernel
theorem dL_size_3 : decode cL_size 3 = .ok (.iload_n 1, 1) := by decide +kernel
theorem dL_size_4 : decode cL_size 4 = .ok (.invokevirtual 61, 3) := by decide +kernel
theorem dL_size_7 : decode cL_size 7 = .ok (.i2l, 1) := by decide +kernel
theorem dL_size_8 : decode cL_size 8 = .ok (.lastore, 1) := by decide +kernel
theorem dL_size_9 : decode cL_size 9 = .ok (.goto 15, 3) := by decide +kernel
theorem dL_size_12 : decode cL_size 12 = .ok (.astore_n 3, 1) := by decide +kernel
theorem dL_size_13 : decode cL_size 13 = .ok (.iconst 1, 1) := by decide +kernel
theorem dL_size_14 : decode cL_size 14 = .ok (.ireturn, 1) := by decide +kernel
theorem dL_size_15 : decode cL_size 15 = .ok (.astore_n 3, 1) := by decide +kernel
theorem dL_size_16 : decode cL_size 16 = .ok (.iconst 2, 1) := by decide +kernel
theorem dL_size_17 : decode cL_size 17 = .ok (.ireturn, 1) := by decide +kernel
theorem dL_size_18 : decode cL_size 18 = .ok (.astore_n 3, 1) := by decide +kernel
theorem dL_size_19 : decode cL_size 19 = .ok (.iconst 3, 1) := by decide +kernel
theorem dL_size_20 : decode cL_size 20 = .ok (.ireturn, 1) := by decide +kernel
theorem dL_size_21 : decode cL_size 21 = .ok (.astore_n 3, 1) := by decide +kernel
theorem dL_size_22 : decode cL_size 22 = .ok (.iconst 4, 1) := by decide +kernel
theorem dL_size_23 : decode cL_size 23 = .ok (.ireturn, 1) := by decide +kernel
theorem dL_size_24 : decode cL_size 24 = .ok (.iconst 0, 1) := by decide +kernel
theorem dL_size_25 : decode cL_size 25 = .ok (.ireturn, 1) := by decide +kernel
theorem dL_sizeByWalking_0 : decode cL_sizeByWalking 0 = .ok (.aload_n 2, 1) := by decide +kernel
theorem dL_sizeByWalking_1 : decode cL_sizeByWalking 1 = .ok (.iconst 0, 1) := by decide +kernel
theorem dL_sizeByWalking_2 : decode cL_sizeByWalking 2 = .ok (.aload_n 0, 1) := by decide +kernel
theorem dL_sizeByWalking_3 : decode cL_sizeByWalking 3 = .ok (.iload_n 1, 1) := by decide +kernel
theorem dL_sizeByWalking_4 : decode cL_sizeByWalking 4 = .ok (.invokevirtual 64, 3) := by decide +kernel
theorem dL_sizeByWalking_7 : decode cL_sizeByWalking 7 = .ok (.i2l, 1) := by decide +kernel
theorem dL_sizeByWalking_8 : decode cL_sizeByWalking 8 = .ok (.lastore, 1) := by decide +kernel
theorem dL_sizeByWalking_9 : decode cL_sizeByWalking 9 = .ok (.goto 6, 3) := by decide +kernel
theorem dL_sizeByWalking_12 : decode cL_sizeByWalking 12 = .ok (.astore_n 3, 1) := by decide +kernel
theorem dL_sizeByWalking_13 : decode cL_sizeByWalking 13 = .ok (.iconst 1, 1) := by decide +kernel
theorem dL_sizeByWalking_14 : decode cL_sizeByWalking 14 = .ok (.ireturn, 1) := by decide +kernel
theorem dL_sizeByWalking_15 : decode cL_sizeByWalking 15 = .ok (.iconst 0, 1) := by decide +kernel
theorem dL_sizeByWalking_16 : decode cL_sizeByWalking 16 = .ok (.ireturn, 1) := by decide +kernel
theorem dL_ownerOf_0 : decode cL_ownerOf 0 = .ok (.aload_n 2, 1) := by decide +kernel
theorem dL_ownerOf_1 : decode cL_ownerOf 1 = .ok (.iconst 0, 1) := by decide +kernel
theorem dL_ownerOf_2 : decode cL_ownerOf 2 = .ok (.aload_n 0, 1) := by decide +kernel
theorem dL_ownerOf_3 : decode cL_ownerOf 3 = .ok (.iload_n 1, 1) := by decide +kernel
theorem dL_ownerOf_4 : decode cL_ownerOf 4 = .ok (.invokevirtual 67, 3) := by decide +kernel
theorem dL_ownerOf_7 : decode cL_ownerOf 7 = .ok (.i2l, 1) := by decide +kernel
theorem dL_ownerOf_8 : decode cL_ownerOf 8 = .ok (.lastore, 1) := by decide +kernel
theorem dL_ownerOf_9 : decode cL_ownerOf 9 = .ok (.goto 9, 3) := by decide +kernel
theorem dL_ownerOf_12 : decode cL_ownerOf 12 = .ok (.astore_n 3, 1) := by decide +kernel
theorem dL_ownerOf_13 : decode cL_ownerOf 13 = .ok (.iconst 1, 1) := by decide +kernel
theorem dL_ownerOf_14 : decode cL_ownerOf 14 = .ok (.ireturn, 1) := by decide +kernel
theorem dL_ownerOf_15 : decode cL_ownerOf 15 = .ok (.astore_n 3, 1) := by decide +kernel
theorem dL_ownerOf_16 : decode cL_ownerOf 16 = .ok (.iconst 2, 1) := by decide +kernel
theorem dL_ownerOf_17 : decode cL_ownerOf 17 = .ok (.ireturn, 1) := by decide +kernel
theorem dL_ownerOf_18 : decode cL_ownerOf 18 = .ok (.iconst 0, 1) := by decide +kernel
theorem dL_ownerOf_19 : decode cL_ownerOf 19 = .ok (.ireturn, 1) := by decide +kernel
theorem dL_setQuota_0 : decode cL_setQuota 0 = .ok (.aload_n 3, 1) := by decide +kernel
theorem dL_setQuota_1 : decode cL_setQuota 1 = .ok (.iconst 0, 1) := by decide +kernel
theorem dL_setQuota_2 : decode cL_setQuota 2 = .ok (.aload_n 0, 1) := by decide +kernel
theorem dL_setQuota_3 : decode cL_setQuota 3 = .ok (.iload_n 1, 1) := by decide +kernel
theorem dL_setQuota_4 : decode cL_setQuota 4 = .ok (.iload_n 2, 1) := by decide +kernel
theorem dL_setQuota_5 : decode cL_setQuota 5 = .ok (.invokevirtual 70, 3) := by decide +kernel
theorem dL_setQuota_8 : decode cL_setQuota 8 = .ok (.i2l, 1) := by decide +kernel
theorem dL_setQuota_9 : decode cL_setQuota 9 = .ok (.lastore, 1) := by decide +kernel
theorem dL_setQuota_10 : decode cL_setQuota 10 = .ok (.goto 7, 3) := by decide +kernel
theorem dL_setQuota_13 : decode cL_setQuota 13 = .ok (.astore 4, 2) := by decide +kernel
theorem dL_setQuota_15 : decode cL_setQuota 15 = .ok (.iconst 1, 1) := by decide +kernel
theorem dL_setQuota_16 : decode cL_setQuota 16 = .ok (.ireturn, 1) := by decide +kernel
theorem dL_setQuota_17 : decode cL_setQuota 17 = .ok (.iconst 0, 1) := by decide +kernel
theorem dL_setQuota_18 : decode cL_setQuota 18 = .ok (.ireturn, 1) := by decide +kernel
theorem dL_used_0 : decode cL_used 0 = .ok (.aload_n 2, 1) := by decide +kernel
theorem dL_used_1 : decode cL_used 1 = .ok (.iconst 0, 1) := by decide +kernel
theorem dL_used_2 : decode cL_used 2 = .ok (.aload_n 0, 1) := by decide +kernel
theorem dL_used_3 : decode cL_used 3 = .ok (.iload_n 1, 1) := by decide +kernel
theorem dL_used_4 : decode cL_used 4 = .ok (.invokevirtual 73, 3) := by decide +kernel
theorem dL_used_7 : decode cL_used 7 = .ok (.i2l, 1) := by decide +kernel
theorem dL_used_8 : decode cL_used 8 = .ok (.lastore, 1) := by decide +kernel
theorem dL_used_9 : decode cL_used 9 = .ok (.goto 6, 3) := by decide +kernel
theorem dL_used_12 : decode cL_used 12 = .ok (.astore_n 3, 1) := by decide +kernel
theorem dL_used_13 : decode cL_used 13 = .ok (.iconst 1, 1) := by decide +kernel
theorem dL_used_14 : decode cL_used 14 = .ok (.ireturn, 1) := by decide +kernel
theorem dL_used_15 : decode cL_used 15 = .ok (.iconst 0, 1) := by decide +kernel
theorem dL_used_16 : decode cL_used 16 = .ok (.ireturn, 1) := by decide +kernel
theorem dL_usedByLayers_0 : decode cL_usedByLayers 0 = .ok (.aload_n 2, 1) := by decide +kernel
theorem dL_usedByLayers_1 : decode cL_usedByLayers 1 = .ok (.iconst 0, 1) := by decide +kernel
theorem dL_usedByLayers_2 : decode cL_usedByLayers 2 = .ok (.aload_n 0, 1) := by decide +kernel
theorem dL_usedByLayers_3 : decode cL_usedByLayers 3 = .ok (.iload_n 1, 1) := by decide +kernel
theorem dL_usedByLayers_4 : decode cL_usedByLayers 4 = .ok (.invokevirtual 76, 3) := by decide +kernel
theorem dL_usedByLayers_7 : decode cL_usedByLayers 7 = .ok (.i2l, 1) := by decide +kernel
theorem dL_usedByLayers_8 : decode cL_usedByLayers 8 = .ok (.lastore, 1) := by decide +kernel
theorem dL_usedByLayers_9 : decode cL_usedByLayers 9 = .ok (.goto 6, 3) := by decide +kernel
theorem dL_usedByLayers_12 : decode cL_usedByLayers 12 = .ok (.astore_n 3, 1) := by decide +kernel
theorem dL_usedByLayers_13 : decode cL_usedByLayers 13 = .ok (.iconst 1, 1) := by decide +kernel
theorem dL_usedByLayers_14 : decode cL_usedByLayers 14 = .ok (.ireturn, 1) := by decide +kernel
theorem dL_usedByLayers_15 : decode cL_usedByLayers 15 = .ok (.iconst 0, 1) := by decide +kernel
theorem dL_usedByLayers_16 : decode cL_usedByLayers 16 = .ok (.ireturn, 1) := by decide +kernel
theorem dL_whiteouts_0 : decode cL_whiteouts 0 = .ok (.aload_n 2, 1) := by decide +kernel
theorem dL_whiteouts_1 : decode cL_whiteouts 1 = .ok (.iconst 0, 1) := by decide +kernel
theorem dL_whiteouts_2 : decode cL_whiteouts 2 = .ok (.aload_n 0, 1) := by decide +kernel
theorem dL_whiteouts_3 : decode cL_whiteouts 3 = .ok (.iload_n 1, 1) := by decide +kernel
theorem dL_whiteouts_4 : decode cL_whiteouts 4 = .ok (.invokevirtual 79, 3) := by decide +kernel
theorem dL_whiteouts_7 : decode cL_whiteouts 7 = .ok (.i2l, 1) := by decide +kernel
theorem dL_whiteouts_8 : decode cL_whiteouts 8 = .ok (.lastore, 1) := by decide +kernel
theorem dL_whiteouts_9 : decode cL_whiteouts 9 = .ok (.goto 6, 3) := by decide +kernel
theorem dL_whiteouts_12 : decode cL_whiteouts 12 = .ok (.astore_n 3, 1) := by decide +kernel
theorem dL_whiteouts_13 : decode cL_whiteouts 13 = .ok (.iconst 1, 1) := by decide +kernel
theorem dL_whiteouts_14 : decode cL_whiteouts 14 = .ok (.ireturn, 1) := by decide +kernel
theorem dL_whiteouts_15 : decode cL_whiteouts 15 = .ok (.iconst 0, 1) := by decide +kernel
theorem dL_whiteouts_16 : decode cL_whiteouts 16 = .ok (.ireturn, 1) := by decide +kernel
theorem dL_backUp_0 : decode cL_backUp 0 = .ok (.aload_n 2, 1) := by decide +kernel
theorem dL_backUp_1 : decode cL_backUp 1 = .ok (.iconst 0, 1) := by decide +kernel
theorem dL_backUp_2 : decode cL_backUp 2 = .ok (.aload_n 0, 1) := by decide +kernel
theorem dL_backUp_3 : decode cL_backUp 3 = .ok (.iload_n 1, 1) := by decide +kernel
theorem dL_backUp_4 : decode cL_backUp 4 = .ok (.invokevirtual 82, 3) := by decide +kernel
theorem dL_backUp_7 : decode cL_backUp 7 = .ok (.i2l, 1) := by decide +kernel
theorem dL_backUp_8 : decode cL_backUp 8 = .ok (.lastore, 1) := by decide +kernel
theorem dL_backUp_9 : decode cL_backUp 9 = .ok (.goto 6, 3) := by decide +kernel
theorem dL_backUp_12 : decode cL_backUp 12 = .ok (.astore_n 3, 1) := by decide +kernel
theorem dL_backUp_13 : decode cL_backUp 13 = .ok (.iconst 1, 1) := by decide +kernel
theorem dL_backUp_14 : decode cL_backUp 14 = .ok (.ireturn, 1) := by decide +kernel
theorem dL_backUp_15 : decode cL_backUp 15 = .ok (.iconst 0, 1) := by decide +kernel
theorem dL_backUp_16 : decode cL_backUp 16 = .ok (.ireturn, 1) := by decide +kernel
theorem dL_bytes_0 : decode cL_bytes 0 = .ok (.aload_n 2, 1) := by decide +kernel
theorem dL_bytes_1 : decode cL_bytes 1 = .ok (.iconst 0, 1) := by decide +kernel
theorem dL_bytes_2 : decode cL_bytes 2 = .ok (.aload_n 0, 1) := by decide +kernel
theorem dL_bytes_3 : decode cL_bytes 3 = .ok (.iload_n 1, 1) := by decide +kernel
theorem dL_bytes_4 : decode cL_bytes 4 = .ok (.invokevirtual 86, 3) := by decide +kernel
theorem dL_bytes_7 : decode cL_bytes 7 = .ok (.i2l, 1) := by decide +kernel
theorem dL_bytes_8 : decode cL_bytes 8 = .ok (.lastore, 1) := by decide +kernel
theorem dL_bytes_9 : decode cL_bytes 9 = .ok (.goto 6, 3) := by decide +kernel
theorem dL_bytes_12 : decode cL_bytes 12 = .ok (.astore_n 3, 1) := by decide +kernel
theorem dL_bytes_13 : decode cL_bytes 13 = .ok (.iconst 1, 1) := by decide +kernel
theorem dL_bytes_14 : decode cL_bytes 14 = .ok (.ireturn, 1) := by decide +kernel
theorem dL_bytes_15 : decode cL_bytes 15 = .ok (.iconst 0, 1) := by decide +kernel
theorem dL_bytes_16 : decode cL_bytes 16 = .ok (.ireturn, 1) := by decide +kernel
theorem dL_differences_0 : decode cL_differences 0 = .ok (.aload_n 2, 1) := by decide +kernel
theorem dL_differences_1 : decode cL_differences 1 = .ok (.iconst 0, 1) := by decide +kernel
theorem dL_differences_2 : decode cL_differences 2 = .ok (.aload_n 0, 1) := by decide +kernel
theorem dL_differences_3 : decode cL_differences 3 = .ok (.iload_n 1, 1) := by decide +kernel
theorem dL_differences_4 : decode cL_differences 4 = .ok (.invokevirtual 89, 3) := by decide +kernel
theorem dL_differences_7 : decode cL_differences 7 = .ok (.i2l, 1) := by decide +kernel
theorem dL_differences_8 : decode cL_differences 8 = .ok (.lastore, 1) := by decide +kernel
theorem dL_differences_9 : decode cL_differences 9 = .ok (.goto 6, 3) := by decide +kernel
theorem dL_differences_12 : decode cL_differences 12 = .ok (.astore_n 3, 1) := by decide +kernel
theorem dL_differences_13 : decode cL_differences 13 = .ok (.iconst 1, 1) := by decide +kernel
theorem dL_differences_14 : decode cL_differences 14 = .ok (.ireturn, 1) := by decide +kernel
theorem dL_differences_15 : decode cL_differences 15 = .ok (.iconst 0, 1) := by decide +kernel
theorem dL_differences_16 : decode cL_differences 16 = .ok (.ireturn, 1) := by decide +kernel
theorem dL_shownShare_0 : decode cL_shownShare 0 = .ok (.aload_n 1, 1) := by decide +kernel
theorem dL_shownShare_1 : decode cL_shownShare 1 = .ok (.iconst 0, 1) := by decide +kernel
theorem dL_shownShare_2 : decode cL_shownShare 2 = .ok (.aload_n 0, 1) := by decide +kernel
theorem dL_shownShare_3 : decode cL_shownShare 3 = .ok (.invokevirtual 92, 3) := by decide +kernel
theorem dL_shownShare_6 : decode cL_shownShare 6 = .ok (.f2d, 1) := by decide +kernel
theorem dL_shownShare_7 : decode cL_shownShare 7 = .ok (.dastore, 1) := by decide +kernel
theorem dL_shownShare_8 : decode cL_shownShare 8 = .ok (.goto 6, 3) := by decide +kernel
theorem dL_shownShare_11 : decode cL_shownShare 11 = .ok (.astore_n 2, 1) := by decide +kernel
theorem dL_shownShare_12 : decode cL_shownShare 12 = .ok (.iconst 1, 1) := by decide +kernel
theorem dL_shownShare_13 : decode cL_shownShare 13 = .ok (.ireturn, 1) := by decide +kernel
theorem dL_shownShare_14 : decode cL_shownShare 14 = .ok (.iconst 0, 1) := by decide +kernel
theorem dL_shownShare_15 : decode cL_shownShare 15 = .ok (.ireturn, 1) := by decide +kernel
theorem dL_meanSize_0 : decode cL_meanSize 0 = .ok (.aload_n 2, 1) := by decide +kernel
theorem dL_meanSize_1 : decode cL_meanSize 1 = .ok (.iconst 0, 1) := by decide +kernel
theorem dL_meanSize_2 : decode cL_meanSize 2 = .ok (.aload_n 0, 1) := by decide +kernel
theorem dL_meanSize_3 : decode cL_meanSize 3 = .ok (.iload_n 1, 1) := by decide +kernel
theorem dL_meanSize_4 : decode cL_meanSize 4 = .ok (.invokevirtual 98, 3) := by decide +kernel
theorem dL_meanSize_7 : decode cL_meanSize 7 = .ok (.dastore, 1) := by decide +kernel
theorem dL_meanSize_8 : decode cL_meanSize 8 = .ok (.goto 9, 3) := by decide +kernel
theorem dL_meanSize_11 : decode cL_meanSize 11 = .ok (.astore_n 3, 1) := by decide +kernel
theorem dL_meanSize_12 : decode cL_meanSize 12 = .ok (.iconst 1, 1) := by decide +kernel
theorem dL_meanSize_13 : decode cL_meanSize 13 = .ok (.ireturn, 1) := by decide +kernel
theorem dL_meanSize_14 : decode cL_meanSize 14 = .ok (.astore_n 3, 1) := by decide +kernel
theorem dL_meanSize_15 : decode cL_meanSize 15 = .ok (.iconst 2, 1) := by decide +kernel
theorem dL_meanSize_16 : decode cL_meanSize 16 = .ok (.ireturn, 1) := by decide +kernel
theorem dL_meanSize_17 : decode cL_meanSize 17 = .ok (.iconst 0, 1) := by decide +kernel
theorem dL_meanSize_18 : decode cL_meanSize 18 = .ok (.ireturn, 1) := by decide +kernel
theorem dL_law_0 : decode cL_law 0 = .ok (.new 8, 3) := by decide +kernel
theorem dL_law_3 : decode cL_law 3 = .ok (.dup, 1) := by decide +kernel
theorem dL_law_4 : decode cL_law 4 = .ok (.invokespecial 102, 3) := by decide +kernel
theorem dL_law_7 : decode cL_law 7 = .ok (.astore_n 1, 1) := by decide +kernel
theorem dL_law_8 : decode cL_law 8 = .ok (.new 103, 3) := by decide +kernel
theorem dL_law_11 : decode cL_law 11 = .ok (.dup, 1) := by decide +kernel
theorem dL_law_12 : decode cL_law 12 = .ok (.invokespecial 105, 3) := by decide +kernel
theorem dL_law_15 : decode cL_law 15 = .ok (.astore_n 2, 1) := by decide +kernel
theorem dL_law_16 : decode cL_law 16 = .ok (.iconst 1, 1) := by decide +kernel
theorem dL_law_17 : decode cL_law 17 = .ok (.newarray .long, 2) := by decide +kernel
theorem dL_law_19 : decode cL_law 19 = .ok (.astore_n 3, 1) := by decide +kernel
theorem dL_law_20 : decode cL_law 20 = .ok (.iconst 1, 1) := by decide +kernel
theorem dL_law_21 : decode cL_law 21 = .ok (.newarray .double, 2) := by decide +kernel
theorem dL_law_23 : decode cL_law 23 = .ok (.astore 4, 2) := by decide +kernel
theorem dL_law_25 : decode cL_law 25 = .ok (.iconst 0, 1) := by decide +kernel
theorem dL_law_26 : decode cL_law 26 = .ok (.istore 5, 2) := by decide +kernel
theorem dL_law_28 : decode cL_law 28 = .ok (.iload 5, 2) := by decide +kernel
theorem dL_law_30 : decode cL_law 30 = .ok (.aload_n 0, 1) := by decide +kernel
theorem dL_law_31 : decode cL_law 31 = .ok (.arraylength, 1) := by decide +kernel
theorem dL_law_32 : decode cL_law 32 = .ok (.iconst 4, 1) := by decide +kernel
theorem dL_law_33 : decode cL_law 33 = .ok (.isub, 1) := by decide +kernel
theorem dL_law_34 : decode cL_law 34 = .ok (.if_icmp .gt 1017, 3) := by decide +kernel
theorem dL_law_37 : decode cL_law 37 = .ok (.aload_n 0, 1) := by decide +kernel
theorem dL_law_38 : decode cL_law 38 = .ok (.iload 5, 2) := by decide +kernel
theorem dL_law_40 : decode cL_law 40 = .ok (.iaload, 1) := by decide +kernel
theorem dL_law_41 : decode cL_law 41 = .ok (.bipush 31, 2) := by decide +kernel
theorem dL_law_43 : decode cL_law 43 = .ok (.iand, 1) := by decide +kernel
theorem dL_law_44 : decode cL_law 44 = .ok (.tableswitch 1001 0 26 #[124, 140, 192, 220, 260, 316, 344, 357, 409, 461, 489, 517, 545, 573, 601, 629, 657, 697, 725, 753, 766, 779, 807, 851, 879, 907, 924], 124) := by decide +kernel
theorem dL_law_168 : decode cL_law 168 = .ok (.aload_n 1, 1) := by decide +kernel
theorem dL_law_169 : decode cL_law 169 = .ok (.aload_n 3, 1) := by decide +kernel
theorem dL_law_170 : decode cL_law 170 = .ok (.invokestatic 106, 3) := by decide +kernel
theorem dL_law_173 : decode cL_law 173 = .ok (.istore 6, 2) := by decide +kernel
theorem dL_law_175 : decode cL_law 175 = .ok (.aload_n 2, 1) := by decide +kernel
theorem dL_law_176 : decode cL_law 176 = .ok (.invokevirtual 111, 3) := by decide +kernel
theorem dL_law_179 : decode cL_law 179 = .ok (.istore 7, 2) := by decide +kernel
theorem dL_law_181 : decode cL_law 181 = .ok (.goto 864, 3) := by decide +kernel
theorem dL_law_184 : decode cL_law 184 = .ok (.aload_n 1, 1) := by decide +kernel
theorem dL_law_185 : decode cL_law 185 = .ok (.aload_n 0, 1) := by decide +kernel
theorem dL_law_186 : decode cL_law 186 = .ok (.iload 5, 2) := by decide +kernel
theorem dL_law_188 : decode cL_law 188 = .ok (.iconst 1, 1) := by decide +kernel
theorem dL_law_189 : decode cL_law 189 = .ok (.iadd, 1) := by decide +kernel
theorem dL_law_190 : decode cL_law 190 = .ok (.iaload, 1) := by decide +kernel
theorem dL_law_191 : decode cL_law 191 = .ok (.aload_n 0, 1) := by decide +kernel
theorem dL_law_192 : decode cL_law 192 = .ok (.iload 5, 2) := by decide +kernel
theorem dL_law_194 : decode cL_law 194 = .ok (.iconst 2, 1) := by decide +kernel
theorem dL_law_195 : decode cL_law 195 = .ok (.iadd, 1) := by decide +kernel
theorem dL_law_196 : decode cL_law 196 = .ok (.iaload, 1) := by decide +kernel
theorem dL_law_197 : decode cL_law 197 = .ok (.aload_n 0, 1) := by decide +kernel
theorem dL_law_198 : decode cL_law 198 = .ok (.iload 5, 2) := by decide +kernel
theorem dL_law_200 : decode cL_law 200 = .ok (.iconst 3, 1) := by decide +kernel
theorem dL_law_201 : decode cL_law 201 = .ok (.iadd, 1) := by decide +kernel
theorem dL_law_202 : decode cL_law 202 = .ok (.iaload, 1) := by decide +kernel
theorem dL_law_203 : decode cL_law 203 = .ok (.aload_n 3, 1) := by decide +kernel
theorem dL_law_204 : decode cL_law 204 = .ok (.invokestatic 112, 3) := by decide +kernel
theorem dL_law_207 : decode cL_law 207 = .ok (.istore 6, 2) := by decide +kernel
theorem dL_law_209 : decode cL_law 209 = .ok (.aload_n 2, 1) := by decide +kernel
theorem dL_law_210 : decode cL_law 210 = .ok (.aload_n 0, 1) := by decide +kernel
theorem dL_law_211 : decode cL_law 211 = .ok (.iload 5, 2) := by decide +kernel
theorem dL_law_213 : decode cL_law 213 = .ok (.iconst 1, 1) := by decide +kernel
theorem dL_law_214 : decode cL_law 214 = .ok (.iadd, 1) := by decide +kernel
theorem dL_law_215 : decode cL_law 215 = .ok (.iaload, 1) := by decide +kernel
theorem dL_law_216 : decode cL_law 216 = .ok (.aload_n 0, 1) := by decide +kernel
theorem dL_law_217 : decode cL_law 217 = .ok (.iload 5, 2) := by decide +kernel
theorem dL_law_219 : decode cL_law 219 = .ok (.iconst 2, 1) := by decide +kernel
theorem dL_law_220 : decode cL_law 220 = .ok (.iadd, 1) := by decide +kernel
theorem dL_law_221 : decode cL_law 221 = .ok (.iaload, 1) := by decide +kernel
theorem dL_law_222 : decode cL_law 222 = .ok (.aload_n 0, 1) := by decide +kernel
theorem dL_law_223 : decode cL_law 223 = .ok (.iload 5, 2) := by decide +kernel
theorem dL_law_225 : decode cL_law 225 = .ok (.iconst 3, 1) := by decide +kernel
theorem dL_law_226 : decode cL_law 226 = .ok (.iadd, 1) := by decide +kernel
theorem dL_law_227 : decode cL_law 227 = .ok (.iaload, 1) := by decide +kernel
theorem dL_law_228 : decode cL_law 228 = .ok (.invokevirtual 115, 3) := by decide +kernel
theorem dL_law_231 : decode cL_law 231 = .ok (.istore 7, 2) := by decide +kernel
theorem dL_law_233 : decode cL_law 233 = .ok (.goto 812, 3) := by decide +kernel
theorem dL_law_236 : decode cL_law 236 = .ok (.aload_n 1, 1) := by decide +kernel
theorem dL_law_237 : decode cL_law 237 = .ok (.aload_n 0, 1) := by decide +kernel
theorem dL_law_238 : decode cL_law 238 = .ok (.iload 5, 2) := by decide +kernel
theorem dL_law_240 : decode cL_law 240 = .ok (.iconst 1, 1) := by decide +kernel
theorem dL_law_241 : decode cL_law 241 = .ok (.iadd, 1) := by decide +kernel
theorem dL_law_242 : decode cL_law 242 = .ok (.iaload, 1) := by decide +kernel
theorem dL_law_243 : decode cL_law 243 = .ok (.aload_n 3, 1) := by decide +kernel
theorem dL_law_244 : decode cL_law 244 = .ok (.invokestatic 116, 3) := by decide +kernel
theorem dL_law_247 : decode cL_law 247 = .ok (.istore 6, 2) := by decide +kernel
theorem dL_law_249 : decode cL_law 249 = .ok (.aload_n 2, 1) := by decide +kernel
theorem dL_law_250 : decode cL_law 250 = .ok (.aload_n 0, 1) := by decide +kernel
theorem dL_law_251 : decode cL_law 251 = .ok (.iload 5, 2) := by decide +kernel
theorem dL_law_253 : decode cL_law 253 = .ok (.iconst 1, 1) := by decide +kernel
theorem dL_law_254 : decode cL_law 254 = .ok (.iadd, 1) := by decide +kernel
theorem dL_law_255 : decode cL_law 255 = .ok (.iaload, 1) := by decide +kernel
theorem dL_law_256 : decode cL_law 256 = .ok (.invokevirtual 119, 3) := by decide +kernel
theorem dL_law_259 : decode cL_law 259 = .ok (.istore 7, 2) := by decide +kernel
theorem dL_law_261 : decode cL_law 261 = .ok (.goto 784, 3) := by decide +kernel
theorem dL_law_264 : decode cL_law 264 = .ok (.aload_n 1, 1) := by decide +kernel
theorem dL_law_265 : decode cL_law 265 = .ok (.aload_n 0, 1) := by decide +kernel
theorem dL_law_266 : decode cL_law 266 = .ok (.iload 5, 2) := by decide +kernel
theorem dL_law_268 : decode cL_law 268 = .ok (.iconst 1, 1) := by decide +kernel
theorem dL_law_269 : decode cL_law 269 = .ok (.iadd, 1) := by decide +kernel
theorem dL_law_270 : decode cL_law 270 = .ok (.iaload, 1) := by decide +kernel
theorem dL_law_271 : decode cL_law 271 = .ok (.aload_n 0, 1) := by decide +kernel
theorem dL_law_272 : decode cL_law 272 = .ok (.iload 5, 2) := by decide +kernel
theorem dL_law_274 : decode cL_law 274 = .ok (.iconst 2, 1) := by decide +kernel
theorem dL_law_275 : decode cL_law 275 = .ok (.iadd, 1) := by decide +kernel
theorem dL_law_276 : decode cL_law 276 = .ok (.iaload, 1) := by decide +kernel
theorem dL_law_277 : decode cL_law 277 = .ok (.aload_n 3, 1) := by decide +kernel
theorem dL_law_278 : decode cL_law 278 = .ok (.invokestatic 120, 3) := by decide +kernel
theorem dL_law_281 : decode cL_law 281 = .ok (.istore 6, 2) := by decide +kernel
theorem dL_law_283 : decode cL_law 283 = .ok (.aload_n 2, 1) := by decide +kernel
theorem dL_law_284 : decode cL_law 284 = .ok (.aload_n 0, 1) := by decide +kernel
theorem dL_law_285 : decode cL_law 285 = .ok (.iload 5, 2) := by decide +kernel
theorem dL_law_287 : decode cL_law 287 = .ok (.iconst 1, 1) := by decide +kernel
theorem dL_law_288 : decode cL_law 288 = .ok (.iadd, 1) := by decide +kernel
theorem dL_law_289 : decode cL_law 289 = .ok (.iaload, 1) := by decide +kernel
theorem dL_law_290 : decode cL_law 290 = .ok (.aload_n 0, 1) := by decide +kernel
theorem dL_law_291 : decode cL_law 291 = .ok (.iload 5, 2) := by decide +kernel
theorem dL_law_293 : decode cL_law 293 = .ok (.iconst 2, 1) := by decide +kernel
theorem dL_law_294 : decode cL_law 294 = .ok (.iadd, 1) := by decide +kernel
theorem dL_law_295 : decode cL_law 295 = .ok (.iaload, 1) := by decide +kernel
theorem dL_law_296 : decode cL_law 296 = .ok (.invokevirtual 123, 3) := by decide +kernel
theorem dL_law_299 : decode cL_law 299 = .ok (.istore 7, 2) := by decide +kernel
theorem dL_law_301 : decode cL_law 301 = .ok (.goto 744, 3) := by decide +kernel
theorem dL_law_304 : decode cL_law 304 = .ok (.aload_n 1, 1) := by decide +kernel
theorem dL_law_305 : decode cL_law 305 = .ok (.aload_n 0, 1) := by decide +kernel
theorem dL_law_306 : decode cL_law 306 = .ok (.iload 5, 2) := by decide +kernel
theorem dL_law_308 : decode cL_law 308 = .ok (.iconst 1, 1) := by decide +kernel
theorem dL_law_309 : decode cL_law 309 = .ok (.iadd, 1) := by decide +kernel
theorem dL_law_310 : decode cL_law 310 = .ok (.iaload, 1) := by decide +kernel
theorem dL_law_311 : decode cL_law 311 = .ok (.aload_n 0, 1) := by decide +kernel
theorem dL_law_312 : decode cL_law 312 = .ok (.iload 5, 2) := by decide +kernel
theorem dL_law_314 : decode cL_law 314 = .ok (.iconst 2, 1) := by decide +kernel
theorem dL_law_315 : decode cL_law 315 = .ok (.iadd, 1) := by decide +kernel
theorem dL_law_316 : decode cL_law 316 = .ok (.iaload, 1) := by decide +kernel
theorem dL_law_317 : decode cL_law 317 = .ok (.ifCond .eq 7, 3) := by decide +kernel
theorem dL_law_320 : decode cL_law 320 = .ok (.iconst 1, 1) := by decide +kernel
theorem dL_law_321 : decode cL_law 321 = .ok (.goto 4, 3) := by decide +kernel
theorem dL_law_324 : decode cL_law 324 = .ok (.iconst 0, 1) := by decide +kernel
theorem dL_law_325 : decode cL_law 325 = .ok (.aload_n 3, 1) := by decide +kernel
theorem dL_law_326 : decode cL_law 326 = .ok (.invokestatic 124, 3) := by decide +kernel
theorem dL_law_329 : decode cL_law 329 = .ok (.istore 6, 2) := by decide +kernel
theorem dL_law_331 : decode cL_law 331 = .ok (.aload_n 2, 1) := by decide +kernel
theorem dL_law_332 : decode cL_law 332 = .ok (.aload_n 0, 1) := by decide +kernel
theorem dL_law_333 : decode cL_law 333 = .ok (.iload 5, 2) := by decide +kernel
theorem dL_law_335 : decode cL_law 335 = .ok (.iconst 1, 1) := by decide +kernel
theorem dL_law_336 : decode cL_law 336 = .ok (.iadd, 1) := by decide +kernel
theorem dL_law_337 : decode cL_law 337 = .ok (.iaload, 1) := by decide +kernel
theorem dL_law_338 : decode cL_law 338 = .ok (.aload_n 0, 1) := by decide +kernel
theorem dL_law_339 : decode cL_law 339 = .ok (.iload 5, 2) := by decide +kernel
theorem dL_law_341 : decode cL_law 341 = .ok (.iconst 2, 1) := by decide +kernel
theorem dL_law_342 : decode cL_law 342 = .ok (.iadd, 1) := by decide +kernel
theorem dL_law_343 : decode cL_law 343 = .ok (.iaload, 1) := by decide +kernel
theorem dL_law_344 : decode cL_law 344 = .ok (.ifCond .eq 7, 3) := by decide +kernel
theorem dL_law_347 : decode cL_law 347 = .ok (.iconst 1, 1) := by decide +kernel
theorem dL_law_348 : decode cL_law 348 = .ok (.goto 4, 3) := by decide +kernel
theorem dL_law_351 : decode cL_law 351 = .ok (.iconst 0, 1) := by decide +kernel
theorem dL_law_352 : decode cL_law 352 = .ok (.invokevirtual 127, 3) := by decide +kernel
theorem dL_law_355 : decode cL_law 355 = .ok (.istore 7, 2) := by decide +kernel
theorem dL_law_357 : decode cL_law 357 = .ok (.goto 688, 3) := by decide +kernel
theorem dL_law_360 : decode cL_law 360 = .ok (.aload_n 1, 1) := by decide +kernel
theorem dL_law_361 : decode cL_law 361 = .ok (.aload_n 0, 1) := by decide +kernel
theorem dL_law_362 : decode cL_law 362 = .ok (.iload 5, 2) := by decide +kernel
theorem dL_law_364 : decode cL_law 364 = .ok (.iconst 1, 1) := by decide +kernel
theorem dL_law_365 : decode cL_law 365 = .ok (.iadd, 1) := by decide +kernel
theorem dL_law_366 : decode cL_law 366 = .ok (.iaload, 1) := by decide +kernel
theorem dL_law_367 : decode cL_law 367 = .ok (.aload_n 3, 1) := by decide +kernel
theorem dL_law_368 : decode cL_law 368 = .ok (.invokestatic 128, 3) := by decide +kernel
theorem dL_law_371 : decode cL_law 371 = .ok (.istore 6, 2) := by decide +kernel
theorem dL_law_373 : decode cL_law 373 = .ok (.aload_n 2, 1) := by decide +kernel
theorem dL_law_374 : decode cL_law 374 = .ok (.aload_n 0, 1) := by decide +kernel
theorem dL_law_375 : decode cL_law 375 = .ok (.iload 5, 2) := by decide +kernel
theorem dL_law_377 : decode cL_law 377 = .ok (.iconst 1, 1) := by decide +kernel
theorem dL_law_378 : decode cL_law 378 = .ok (.iadd, 1) := by decide +kernel
theorem dL_law_379 : decode cL_law 379 = .ok (.iaload, 1) := by decide +kernel
theorem dL_law_380 : decode cL_law 380 = .ok (.invokevirtual 130, 3) := by decide +kernel
theorem dL_law_383 : decode cL_law 383 = .ok (.istore 7, 2) := by decide +kernel
theorem dL_law_385 : decode cL_law 385 = .ok (.goto 660, 3) := by decide +kernel
theorem dL_law_388 : decode cL_law 388 = .ok (.aload_n 1, 1) := by decide +kernel
theorem dL_law_389 : decode cL_law 389 = .ok (.invokevirtual 131, 3) := by decide +kernel
theorem dL_law_392 : decode cL_law 392 = .ok (.pop, 1) := by decide +kernel
theorem dL_law_393 : decode cL_law 393 = .ok (.aload_n 2, 1) := by decide +kernel
theorem dL_law_394 : decode cL_law 394 = .ok (.invokevirtual 134, 3) := by decide +kernel
theorem dL_law_397 : decode cL_law 397 = .ok (.pop, 1) := by decide +kernel
theorem dL_law_398 : decode cL_law 398 = .ok (.goto 647, 3) := by decide +kernel
theorem dL_law_401 : decode cL_law 401 = .ok (.aload_n 1, 1) := by decide +kernel
theorem dL_law_402 : decode cL_law 402 = .ok (.aload_n 0, 1) := by decide +kernel
theorem dL_law_403 : decode cL_law 403 = .ok (.iload 5, 2) := by decide +kernel
theorem dL_law_405 : decode cL_law 405 = .ok (.iconst 1, 1) := by decide +kernel
theorem dL_law_406 : decode cL_law 406 = .ok (.iadd, 1) := by decide +kernel
theorem dL_law_407 : decode cL_law 407 = .ok (.iaload, 1) := by decide +kernel
theorem dL_law_408 : decode cL_law 408 = .ok (.aload_n 0, 1) := by decide +kernel
theorem dL_law_409 : decode cL_law 409 = .ok (.iload 5, 2) := by decide +kernel
theorem dL_law_411 : decode cL_law 411 = .ok (.iconst 2, 1) := by decide +kernel
theorem dL_law_412 : decode cL_law 412 = .ok (.iadd, 1) := by decide +kernel
theorem dL_law_413 : decode cL_law 413 = .ok (.iaload, 1) := by decide +kernel
theorem dL_law_414 : decode cL_law 414 = .ok (.aload_n 0, 1) := by decide +kernel
theorem dL_law_415 : decode cL_law 415 = .ok (.iload 5, 2) := by decide +kernel
theorem dL_law_417 : decode cL_law 417 = .ok (.iconst 3, 1) := by decide +kernel
theorem dL_law_418 : decode cL_law 418 = .ok (.iadd, 1) := by decide +kernel
theorem dL_law_419 : decode cL_law 419 = .ok (.iaload, 1) := by decide +kernel
theorem dL_law_420 : decode cL_law 420 = .ok (.aload_n 3, 1) := by decide +kernel
theorem dL_law_421 : decode cL_law 421 = .ok (.invokestatic 135, 3) := by decide +kernel
theorem dL_law_424 : decode cL_law 424 = .ok (.istore 6, 2) := by decide +kernel
theorem dL_law_426 : decode cL_law 426 = .ok (.aload_n 2, 1) := by decide +kernel
theorem dL_law_427 : decode cL_law 427 = .ok (.aload_n 0, 1) := by decide +kernel
theorem dL_law_428 : decode cL_law 428 = .ok (.iload 5, 2) := by decide +kernel
theorem dL_law_430 : decode cL_law 430 = .ok (.iconst 1, 1) := by decide +kernel
theorem dL_law_431 : decode cL_law 431 = .ok (.iadd, 1) := by decide +kernel
theorem dL_law_432 : decode cL_law 432 = .ok (.iaload, 1) := by decide +kernel
theorem dL_law_433 : decode cL_law 433 = .ok (.aload_n 0, 1) := by decide +kernel
theorem dL_law_434 : decode cL_law 434 = .ok (.iload 5, 2) := by decide +kernel
theorem dL_law_436 : decode cL_law 436 = .ok (.iconst 2, 1) := by decide +kernel
theorem dL_law_437 : decode cL_law 437 = .ok (.iadd, 1) := by decide +kernel
theorem dL_law_438 : decode cL_law 438 = .ok (.iaload, 1) := by decide +kernel
theorem dL_law_439 : decode cL_law 439 = .ok (.aload_n 0, 1) := by decide +kernel
theorem dL_law_440 : decode cL_law 440 = .ok (.iload 5, 2) := by decide +kernel
theorem dL_law_442 : decode cL_law 442 = .ok (.iconst 3, 1) := by decide +kernel
theorem dL_law_443 : decode cL_law 443 = .ok (.iadd, 1) := by decide +kernel
theorem dL_law_444 : decode cL_law 444 = .ok (.iaload, 1) := by decide +kernel
theorem dL_law_445 : decode cL_law 445 = .ok (.invokevirtual 137, 3) := by decide +kernel
theorem dL_law_448 : decode cL_law 448 = .ok (.istore 7, 2) := by decide +kernel
theorem dL_law_450 : decode cL_law 450 = .ok (.goto 595, 3) := by decide +kernel
theorem dL_law_453 : decode cL_law 453 = .ok (.aload_n 1, 1) := by decide +kernel
theorem dL_law_454 : decode cL_law 454 = .ok (.aload_n 0, 1) := by decide +kernel
theorem dL_law_455 : decode cL_law 455 = .ok (.iload 5, 2) := by decide +kernel
theorem dL_law_457 : decode cL_law 457 = .ok (.iconst 1, 1) := by decide +kernel
theorem dL_law_458 : decode cL_law 458 = .ok (.iadd, 1) := by decide +kernel
theorem dL_law_459 : decode cL_law 459 = .ok (.iaload, 1) := by decide +kernel
theorem dL_law_460 : decode cL_law 460 = .ok (.aload_n 0, 1) := by decide +kernel
theorem dL_law_461 : decode cL_law 461 = .ok (.iload 5, 2) := by decide +kernel
theorem dL_law_463 : decode cL_law 463 = .ok (.iconst 2, 1) := by decide +kernel
theorem dL_law_464 : decode cL_law 464 = .ok (.iadd, 1) := by decide +kernel
theorem dL_law_465 : decode cL_law 465 = .ok (.iaload, 1) := by decide +kernel
theorem dL_law_466 : decode cL_law 466 = .ok (.aload_n 0, 1) := by decide +kernel
theorem dL_law_467 : decode cL_law 467 = .ok (.iload 5, 2) := by decide +kernel
theorem dL_law_469 : decode cL_law 469 = .ok (.iconst 3, 1) := by decide +kernel
theorem dL_law_470 : decode cL_law 470 = .ok (.iadd, 1) := by decide +kernel
theorem dL_law_471 : decode cL_law 471 = .ok (.iaload, 1) := by decide +kernel
theorem dL_law_472 : decode cL_law 472 = .ok (.aload_n 3, 1) := by decide +kernel
theorem dL_law_473 : decode cL_law 473 = .ok (.invokestatic 138, 3) := by decide +kernel
theorem dL_law_476 : decode cL_law 476 = .ok (.istore 6, 2) := by decide +kernel
theorem dL_law_478 : decode cL_law 478 = .ok (.aload_n 2, 1) := by decide +kernel
theorem dL_law_479 : decode cL_law 479 = .ok (.aload_n 0, 1) := by decide +kernel
theorem dL_law_480 : decode cL_law 480 = .ok (.iload 5, 2) := by decide +kernel
theorem dL_law_482 : decode cL_law 482 = .ok (.iconst 1, 1) := by decide +kernel
theorem dL_law_483 : decode cL_law 483 = .ok (.iadd, 1) := by decide +kernel
theorem dL_law_484 : decode cL_law 484 = .ok (.iaload, 1) := by decide +kernel
theorem dL_law_485 : decode cL_law 485 = .ok (.aload_n 0, 1) := by decide +kernel
theorem dL_law_486 : decode cL_law 486 = .ok (.iload 5, 2) := by decide +kernel
theorem dL_law_488 : decode cL_law 488 = .ok (.iconst 2, 1) := by decide +kernel
theorem dL_law_489 : decode cL_law 489 = .ok (.iadd, 1) := by decide +kernel
theorem dL_law_490 : decode cL_law 490 = .ok (.iaload, 1) := by decide +kernel
theorem dL_law_491 : decode cL_law 491 = .ok (.aload_n 0, 1) := by decide +kernel
theorem dL_law_492 : decode cL_law 492 = .ok (.iload 5, 2) := by decide +kernel
theorem dL_law_494 : decode cL_law 494 = .ok (.iconst 3, 1) := by decide +kernel
theorem dL_law_495 : decode cL_law 495 = .ok (.iadd, 1) := by decide +kernel
theorem dL_law_496 : decode cL_law 496 = .ok (.iaload, 1) := by decide +kernel
theorem dL_law_497 : decode cL_law 497 = .ok (.invokevirtual 140, 3) := by decide +kernel
theorem dL_law_500 : decode cL_law 500 = .ok (.istore 7, 2) := by decide +kernel
theorem dL_law_502 : decode cL_law 502 = .ok (.goto 543, 3) := by decide +kernel
theorem dL_law_505 : decode cL_law 505 = .ok (.aload_n 1, 1) := by decide +kernel
theorem dL_law_506 : decode cL_law 506 = .ok (.aload_n 0, 1) := by decide +kernel
theorem dL_law_507 : decode cL_law 507 = .ok (.iload 5, 2) := by decide +kernel
theorem dL_law_509 : decode cL_law 509 = .ok (.iconst 1, 1) := by decide +kernel
theorem dL_law_510 : decode cL_law 510 = .ok (.iadd, 1) := by decide +kernel
theorem dL_law_511 : decode cL_law 511 = .ok (.iaload, 1) := by decide +kernel
theorem dL_law_512 : decode cL_law 512 = .ok (.aload_n 3, 1) := by decide +kernel
theorem dL_law_513 : decode cL_law 513 = .ok (.invokestatic 141, 3) := by decide +kernel
theorem dL_law_516 : decode cL_law 516 = .ok (.istore 6, 2) := by decide +kernel
theorem dL_law_518 : decode cL_law 518 = .ok (.aload_n 2, 1) := by decide +kernel
theorem dL_law_519 : decode cL_law 519 = .ok (.aload_n 0, 1) := by decide +kernel
theorem dL_law_520 : decode cL_law 520 = .ok (.iload 5, 2) := by decide +kernel
theorem dL_law_522 : decode cL_law 522 = .ok (.iconst 1, 1) := by decide +kernel
theorem dL_law_523 : decode cL_law 523 = .ok (.iadd, 1) := by decide +kernel
theorem dL_law_524 : decode cL_law 524 = .ok (.iaload, 1) := by decide +kernel
theorem dL_law_525 : decode cL_law 525 = .ok (.invokevirtual 143, 3) := by decide +kernel
theorem dL_law_528 : decode cL_law 528 = .ok (.istore 7, 2) := by decide +kernel
theorem dL_law_530 : decode cL_law 530 = .ok (.goto 515, 3) := by decide +kernel
theorem dL_law_533 : decode cL_law 533 = .ok (.aload_n 1, 1) := by decide +kernel
theorem dL_law_534 : decode cL_law 534 = .ok (.aload_n 0, 1) := by decide +kernel
theorem dL_law_535 : decode cL_law 535 = .ok (.iload 5, 2) := by decide +kernel
theorem dL_law_537 : decode cL_law 537 = .ok (.iconst 1, 1) := by decide +kernel
theorem dL_law_538 : decode cL_law 538 = .ok (.iadd, 1) := by decide +kernel
theorem dL_law_539 : decode cL_law 539 = .ok (.iaload, 1) := by decide +kernel
theorem dL_law_540 : decode cL_law 540 = .ok (.aload_n 3, 1) := by decide +kernel
theorem dL_law_541 : decode cL_law 541 = .ok (.invokestatic 144, 3) := by decide +kernel
theorem dL_law_544 : decode cL_law 544 = .ok (.istore 6, 2) := by decide +kernel
theorem dL_law_546 : decode cL_law 546 = .ok (.aload_n 2, 1) := by decide +kernel
theorem dL_law_547 : decode cL_law 547 = .ok (.aload_n 0, 1) := by decide +kernel
theorem dL_law_548 : decode cL_law 548 = .ok (.iload 5, 2) := by decide +kernel
theorem dL_law_550 : decode cL_law 550 = .ok (.iconst 1, 1) := by decide +kernel
theorem dL_law_551 : decode cL_law 551 = .ok (.iadd, 1) := by decide +kernel
theorem dL_law_552 : decode cL_law 552 = .ok (.iaload, 1) := by decide +kernel
theorem dL_law_553 : decode cL_law 553 = .ok (.invokevirtual 146, 3) := by decide +kernel
theorem dL_law_556 : decode cL_law 556 = .ok (.istore 7, 2) := by decide +kernel
theorem dL_law_558 : decode cL_law 558 = .ok (.goto 487, 3) := by decide +kernel
theorem dL_law_561 : decode cL_law 561 = .ok (.aload_n 1, 1) := by decide +kernel
theorem dL_law_562 : decode cL_law 562 = .ok (.aload_n 0, 1) := by decide +kernel
theorem dL_law_563 : decode cL_law 563 = .ok (.iload 5, 2) := by decide +kernel
theorem dL_law_565 : decode cL_law 565 = .ok (.iconst 1, 1) := by decide +kernel
theorem dL_law_566 : decode cL_law 566 = .ok (.iadd, 1) := by decide +kernel
theorem dL_law_567 : decode cL_law 567 = .ok (.iaload, 1) := by decide +kernel
theorem dL_law_568 : decode cL_law 568 = .ok (.aload_n 3, 1) := by decide +kernel
theorem dL_law_569 : decode cL_law 569 = .ok (.invokestatic 147, 3) := by decide +kernel
theorem dL_law_572 : decode cL_law 572 = .ok (.istore 6, 2) := by decide +kernel
theorem dL_law_574 : decode cL_law 574 = .ok (.aload_n 2, 1) := by decide +kernel
theorem dL_law_575 : decode cL_law 575 = .ok (.aload_n 0, 1) := by decide +kernel
theorem dL_law_576 : decode cL_law 576 = .ok (.iload 5, 2) := by decide +kernel
theorem dL_law_578 : decode cL_law 578 = .ok (.iconst 1, 1) := by decide +kernel
theorem dL_law_579 : decode cL_law 579 = .ok (.iadd, 1) := by decide +kernel
theorem dL_law_580 : decode cL_law 580 = .ok (.iaload, 1) := by decide +kernel
theorem dL_law_581 : decode cL_law 581 = .ok (.invokevirtual 149, 3) := by decide +kernel
theorem dL_law_584 : decode cL_law 584 = .ok (.istore 7, 2) := by decide +kernel
theorem dL_law_586 : decode cL_law 586 = .ok (.goto 459, 3) := by decide +kernel
theorem dL_law_589 : decode cL_law 589 = .ok (.aload_n 1, 1) := by decide +kernel
theorem dL_law_590 : decode cL_law 590 = .ok (.aload_n 0, 1) := by decide +kernel
theorem dL_law_591 : decode cL_law 591 = .ok (.iload 5, 2) := by decide +kernel
theorem dL_law_593 : decode cL_law 593 = .ok (.iconst 1, 1) := by decide +kernel
theorem dL_law_594 : decode cL_law 594 = .ok (.iadd, 1) := by decide +kernel
theorem dL_law_595 : decode cL_law 595 = .ok (.iaload, 1) := by decide +kernel
theorem dL_law_596 : decode cL_law 596 = .ok (.aload_n 3, 1) := by decide +kernel
theorem dL_law_597 : decode cL_law 597 = .ok (.invokestatic 150, 3) := by decide +kernel
theorem dL_law_600 : decode cL_law 600 = .ok (.istore 6, 2) := by decide +kernel
theorem dL_law_602 : decode cL_law 602 = .ok (.aload_n 2, 1) := by decide +kernel
theorem dL_law_603 : decode cL_law 603 = .ok (.aload_n 0, 1) := by decide +kernel
theorem dL_law_604 : decode cL_law 604 = .ok (.iload 5, 2) := by decide +kernel
theorem dL_law_606 : decode cL_law 606 = .ok (.iconst 1, 1) := by decide +kernel
theorem dL_law_607 : decode cL_law 607 = .ok (.iadd, 1) := by decide +kernel
theorem dL_law_608 : decode cL_law 608 = .ok (.iaload, 1) := by decide +kernel
theorem dL_law_609 : decode cL_law 609 = .ok (.invokevirtual 152, 3) := by decide +kernel
theorem dL_law_612 : decode cL_law 612 = .ok (.istore 7, 2) := by decide +kernel
theorem dL_law_614 : decode cL_law 614 = .ok (.goto 431, 3) := by decide +kernel
theorem dL_law_617 : decode cL_law 617 = .ok (.aload_n 1, 1) := by decide +kernel
theorem dL_law_618 : decode cL_law 618 = .ok (.aload_n 0, 1) := by decide +kernel
theorem dL_law_619 : decode cL_law 619 = .ok (.iload 5, 2) := by decide +kernel
theorem dL_law_621 : decode cL_law 621 = .ok (.iconst 1, 1) := by decide +kernel
theorem dL_law_622 : decode cL_law 622 = .ok (.iadd, 1) := by decide +kernel
theorem dL_law_623 : decode cL_law 623 = .ok (.iaload, 1) := by decide +kernel
theorem dL_law_624 : decode cL_law 624 = .ok (.aload_n 3, 1) := by decide +kernel
theorem dL_law_625 : decode cL_law 625 = .ok (.invokestatic 153, 3) := by decide +kernel
theorem dL_law_628 : decode cL_law 628 = .ok (.istore 6, 2) := by decide +kernel
theorem dL_law_630 : decode cL_law 630 = .ok (.aload_n 2, 1) := by decide +kernel
theorem dL_law_631 : decode cL_law 631 = .ok (.aload_n 0, 1) := by decide +kernel
theorem dL_law_632 : decode cL_law 632 = .ok (.iload 5, 2) := by decide +kernel
theorem dL_law_634 : decode cL_law 634 = .ok (.iconst 1, 1) := by decide +kernel
theorem dL_law_635 : decode cL_law 635 = .ok (.iadd, 1) := by decide +kernel
theorem dL_law_636 : decode cL_law 636 = .ok (.iaload, 1) := by decide +kernel
theorem dL_law_637 : decode cL_law 637 = .ok (.invokevirtual 155, 3) := by decide +kernel
theorem dL_law_640 : decode cL_law 640 = .ok (.istore 7, 2) := by decide +kernel
theorem dL_law_642 : decode cL_law 642 = .ok (.goto 403, 3) := by decide +kernel
theorem dL_law_645 : decode cL_law 645 = .ok (.aload_n 1, 1) := by decide +kernel
theorem dL_law_646 : decode cL_law 646 = .ok (.aload_n 0, 1) := by decide +kernel
theorem dL_law_647 : decode cL_law 647 = .ok (.iload 5, 2) := by decide +kernel
theorem dL_law_649 : decode cL_law 649 = .ok (.iconst 1, 1) := by decide +kernel
theorem dL_law_650 : decode cL_law 650 = .ok (.iadd, 1) := by decide +kernel
theorem dL_law_651 : decode cL_law 651 = .ok (.iaload, 1) := by decide +kernel
theorem dL_law_652 : decode cL_law 652 = .ok (.aload_n 3, 1) := by decide +kernel
theorem dL_law_653 : decode cL_law 653 = .ok (.invokestatic 156, 3) := by decide +kernel
theorem dL_law_656 : decode cL_law 656 = .ok (.istore 6, 2) := by decide +kernel
theorem dL_law_658 : decode cL_law 658 = .ok (.aload_n 2, 1) := by decide +kernel
theorem dL_law_659 : decode cL_law 659 = .ok (.aload_n 0, 1) := by decide +kernel
theorem dL_law_660 : decode cL_law 660 = .ok (.iload 5, 2) := by decide +kernel
theorem dL_law_662 : decode cL_law 662 = .ok (.iconst 1, 1) := by decide +kernel
theorem dL_law_663 : decode cL_law 663 = .ok (.iadd, 1) := by decide +kernel
theorem dL_law_664 : decode cL_law 664 = .ok (.iaload, 1) := by decide +kernel
theorem dL_law_665 : decode cL_law 665 = .ok (.invokevirtual 158, 3) := by decide +kernel
theorem dL_law_668 : decode cL_law 668 = .ok (.istore 7, 2) := by decide +kernel
theorem dL_law_670 : decode cL_law 670 = .ok (.goto 375, 3) := by decide +kernel
theorem dL_law_673 : decode cL_law 673 = .ok (.aload_n 1, 1) := by decide +kernel
theorem dL_law_674 : decode cL_law 674 = .ok (.aload_n 0, 1) := by decide +kernel
theorem dL_law_675 : decode cL_law 675 = .ok (.iload 5, 2) := by decide +kernel
theorem dL_law_677 : decode cL_law 677 = .ok (.iconst 1, 1) := by decide +kernel
theorem dL_law_678 : decode cL_law 678 = .ok (.iadd, 1) := by decide +kernel
theorem dL_law_679 : decode cL_law 679 = .ok (.iaload, 1) := by decide +kernel
theorem dL_law_680 : decode cL_law 680 = .ok (.aload_n 3, 1) := by decide +kernel
theorem dL_law_681 : decode cL_law 681 = .ok (.invokestatic 159, 3) := by decide +kernel
theorem dL_law_684 : decode cL_law 684 = .ok (.istore 6, 2) := by decide +kernel
theorem dL_law_686 : decode cL_law 686 = .ok (.aload_n 2, 1) := by decide +kernel
theorem dL_law_687 : decode cL_law 687 = .ok (.aload_n 0, 1) := by decide +kernel
theorem dL_law_688 : decode cL_law 688 = .ok (.iload 5, 2) := by decide +kernel
theorem dL_law_690 : decode cL_law 690 = .ok (.iconst 1, 1) := by decide +kernel
theorem dL_law_691 : decode cL_law 691 = .ok (.iadd, 1) := by decide +kernel
theorem dL_law_692 : decode cL_law 692 = .ok (.iaload, 1) := by decide +kernel
theorem dL_law_693 : decode cL_law 693 = .ok (.invokevirtual 161, 3) := by decide +kernel
theorem dL_law_696 : decode cL_law 696 = .ok (.istore 7, 2) := by decide +kernel
theorem dL_law_698 : decode cL_law 698 = .ok (.goto 347, 3) := by decide +kernel
theorem dL_law_701 : decode cL_law 701 = .ok (.aload_n 1, 1) := by decide +kernel
theorem dL_law_702 : decode cL_law 702 = .ok (.aload_n 0, 1) := by decide +kernel
theorem dL_law_703 : decode cL_law 703 = .ok (.iload 5, 2) := by decide +kernel
theorem dL_law_705 : decode cL_law 705 = .ok (.iconst 1, 1) := by decide +kernel
theorem dL_law_706 : decode cL_law 706 = .ok (.iadd, 1) := by decide +kernel
theorem dL_law_707 : decode cL_law 707 = .ok (.iaload, 1) := by decide +kernel
theorem dL_law_708 : decode cL_law 708 = .ok (.aload_n 0, 1) := by decide +kernel
theorem dL_law_709 : decode cL_law 709 = .ok (.iload 5, 2) := by decide +kernel
theorem dL_law_711 : decode cL_law 711 = .ok (.iconst 2, 1) := by decide +kernel
theorem dL_law_712 : decode cL_law 712 = .ok (.iadd, 1) := by decide +kernel
theorem dL_law_713 : decode cL_law 713 = .ok (.iaload, 1) := by decide +kernel
theorem dL_law_714 : decode cL_law 714 = .ok (.aload_n 3, 1) := by decide +kernel
theorem dL_law_715 : decode cL_law 715 = .ok (.invokestatic 162, 3) := by decide +kernel
theorem dL_law_718 : decode cL_law 718 = .ok (.istore 6, 2) := by decide +kernel
theorem dL_law_720 : decode cL_law 720 = .ok (.aload_n 2, 1) := by decide +kernel
theorem dL_law_721 : decode cL_law 721 = .ok (.aload_n 0, 1) := by decide +kernel
theorem dL_law_722 : decode cL_law 722 = .ok (.iload 5, 2) := by decide +kernel
theorem dL_law_724 : decode cL_law 724 = .ok (.iconst 1, 1) := by decide +kernel
theorem dL_law_725 : decode cL_law 725 = .ok (.iadd, 1) := by decide +kernel
theorem dL_law_726 : decode cL_law 726 = .ok (.iaload, 1) := by decide +kernel
theorem dL_law_727 : decode cL_law 727 = .ok (.aload_n 0, 1) := by decide +kernel
theorem dL_law_728 : decode cL_law 728 = .ok (.iload 5, 2) := by decide +kernel
theorem dL_law_730 : decode cL_law 730 = .ok (.iconst 2, 1) := by decide +kernel
theorem dL_law_731 : decode cL_law 731 = .ok (.iadd, 1) := by decide +kernel
theorem dL_law_732 : decode cL_law 732 = .ok (.iaload, 1) := by decide +kernel
theorem dL_law_733 : decode cL_law 733 = .ok (.invokevirtual 164, 3) := by decide +kernel
theorem dL_law_736 : decode cL_law 736 = .ok (.istore 7, 2) := by decide +kernel
theorem dL_law_738 : decode cL_law 738 = .ok (.goto 307, 3) := by decide +kernel
theorem dL_law_741 : decode cL_law 741 = .ok (.aload_n 1, 1) := by decide +kernel
theorem dL_law_742 : decode cL_law 742 = .ok (.aload_n 0, 1) := by decide +kernel
theorem dL_law_743 : decode cL_law 743 = .ok (.iload 5, 2) := by decide +kernel
theorem dL_law_745 : decode cL_law 745 = .ok (.iconst 1, 1) := by decide +kernel
theorem dL_law_746 : decode cL_law 746 = .ok (.iadd, 1) := by decide +kernel
theorem dL_law_747 : decode cL_law 747 = .ok (.iaload, 1) := by decide +kernel
theorem dL_law_748 : decode cL_law 748 = .ok (.aload_n 3, 1) := by decide +kernel
theorem dL_law_749 : decode cL_law 749 = .ok (.invokestatic 165, 3) := by decide +kernel
theorem dL_law_752 : decode cL_law 752 = .ok (.istore 6, 2) := by decide +kernel
theorem dL_law_754 : decode cL_law 754 = .ok (.aload_n 2, 1) := by decide +kernel
theorem dL_law_755 : decode cL_law 755 = .ok (.aload_n 0, 1) := by decide +kernel
theorem dL_law_756 : decode cL_law 756 = .ok (.iload 5, 2) := by decide +kernel
theorem dL_law_758 : decode cL_law 758 = .ok (.iconst 1, 1) := by decide +kernel
theorem dL_law_759 : decode cL_law 759 = .ok (.iadd, 1) := by decide +kernel
theorem dL_law_760 : decode cL_law 760 = .ok (.iaload, 1) := by decide +kernel
theorem dL_law_761 : decode cL_law 761 = .ok (.invokevirtual 167, 3) := by decide +kernel
theorem dL_law_764 : decode cL_law 764 = .ok (.istore 7, 2) := by decide +kernel
theorem dL_law_766 : decode cL_law 766 = .ok (.goto 279, 3) := by decide +kernel
theorem dL_law_769 : decode cL_law 769 = .ok (.aload_n 1, 1) := by decide +kernel
theorem dL_law_770 : decode cL_law 770 = .ok (.aload_n 0, 1) := by decide +kernel
theorem dL_law_771 : decode cL_law 771 = .ok (.iload 5, 2) := by decide +kernel
theorem dL_law_773 : decode cL_law 773 = .ok (.iconst 1, 1) := by decide +kernel
theorem dL_law_774 : decode cL_law 774 = .ok (.iadd, 1) := by decide +kernel
theorem dL_law_775 : decode cL_law 775 = .ok (.iaload, 1) := by decide +kernel
theorem dL_law_776 : decode cL_law 776 = .ok (.aload_n 3, 1) := by decide +kernel
theorem dL_law_777 : decode cL_law 777 = .ok (.invokestatic 168, 3) := by decide +kernel
theorem dL_law_780 : decode cL_law 780 = .ok (.istore 6, 2) := by decide +kernel
theorem dL_law_782 : decode cL_law 782 = .ok (.aload_n 2, 1) := by decide +kernel
theorem dL_law_783 : decode cL_law 783 = .ok (.aload_n 0, 1) := by decide +kernel
theorem dL_law_784 : decode cL_law 784 = .ok (.iload 5, 2) := by decide +kernel
theorem dL_law_786 : decode cL_law 786 = .ok (.iconst 1, 1) := by decide +kernel
theorem dL_law_787 : decode cL_law 787 = .ok (.iadd, 1) := by decide +kernel
theorem dL_law_788 : decode cL_law 788 = .ok (.iaload, 1) := by decide +kernel
theorem dL_law_789 : decode cL_law 789 = .ok (.invokevirtual 170, 3) := by decide +kernel
theorem dL_law_792 : decode cL_law 792 = .ok (.istore 7, 2) := by decide +kernel
theorem dL_law_794 : decode cL_law 794 = .ok (.goto 251, 3) := by decide +kernel
theorem dL_law_797 : decode cL_law 797 = .ok (.aload_n 1, 1) := by decide +kernel
theorem dL_law_798 : decode cL_law 798 = .ok (.invokevirtual 171, 3) := by decide +kernel
theorem dL_law_801 : decode cL_law 801 = .ok (.pop, 1) := by decide +kernel
theorem dL_law_802 : decode cL_law 802 = .ok (.aload_n 2, 1) := by decide +kernel
theorem dL_law_803 : decode cL_law 803 = .ok (.invokevirtual 174, 3) := by decide +kernel
theorem dL_law_806 : decode cL_law 806 = .ok (.pop, 1) := by decide +kernel
theorem dL_law_807 : decode cL_law 807 = .ok (.goto 238, 3) := by decide +kernel
theorem dL_law_810 : decode cL_law 810 = .ok (.aload_n 1, 1) := by decide +kernel
theorem dL_law_811 : decode cL_law 811 = .ok (.invokevirtual 175, 3) := by decide +kernel
theorem dL_law_814 : decode cL_law 814 = .ok (.pop, 1) := by decide +kernel
theorem dL_law_815 : decode cL_law 815 = .ok (.aload_n 2, 1) := by decide +kernel
theorem dL_law_816 : decode cL_law 816 = .ok (.invokevirtual 178, 3) := by decide +kernel
theorem dL_law_819 : decode cL_law 819 = .ok (.pop, 1) := by decide +kernel
theorem dL_law_820 : decode cL_law 820 = .ok (.goto 225, 3) := by decide +kernel
theorem dL_law_823 : decode cL_law 823 = .ok (.aload_n 1, 1) := by decide +kernel
theorem dL_law_824 : decode cL_law 824 = .ok (.aload_n 0, 1) := by decide +kernel
theorem dL_law_825 : decode cL_law 825 = .ok (.iload 5, 2) := by decide +kernel
theorem dL_law_827 : decode cL_law 827 = .ok (.iconst 1, 1) := by decide +kernel
theorem dL_law_828 : decode cL_law 828 = .ok (.iadd, 1) := by decide +kernel
theorem dL_law_829 : decode cL_law 829 = .ok (.iaload, 1) := by decide +kernel
theorem dL_law_830 : decode cL_law 830 = .ok (.aload_n 3, 1) := by decide +kernel
theorem dL_law_831 : decode cL_law 831 = .ok (.invokestatic 179, 3) := by decide +kernel
theorem dL_law_834 : decode cL_law 834 = .ok (.istore 6, 2) := by decide +kernel
theorem dL_law_836 : decode cL_law 836 = .ok (.aload_n 2, 1) := by decide +kernel
theorem dL_law_837 : decode cL_law 837 = .ok (.aload_n 0, 1) := by decide +kernel
theorem dL_law_838 : decode cL_law 838 = .ok (.iload 5, 2) := by decide +kernel
theorem dL_law_840 : decode cL_law 840 = .ok (.iconst 1, 1) := by decide +kernel
theorem dL_law_841 : decode cL_law 841 = .ok (.iadd, 1) := by decide +kernel
theorem dL_law_842 : decode cL_law 842 = .ok (.iaload, 1) := by decide +kernel
theorem dL_law_843 : decode cL_law 843 = .ok (.invokevirtual 181, 3) := by decide +kernel
theorem dL_law_846 : decode cL_law 846 = .ok (.istore 7, 2) := by decide +kernel
theorem dL_law_848 : decode cL_law 848 = .ok (.goto 197, 3) := by decide +kernel
theorem dL_law_851 : decode cL_law 851 = .ok (.aload_n 1, 1) := by decide +kernel
theorem dL_law_852 : decode cL_law 852 = .ok (.aload_n 0, 1) := by decide +kernel
theorem dL_law_853 : decode cL_law 853 = .ok (.iload 5, 2) := by decide +kernel
theorem dL_law_855 : decode cL_law 855 = .ok (.iconst 1, 1) := by decide +kernel
theorem dL_law_856 : decode cL_law 856 = .ok (.iadd, 1) := by decide +kernel
theorem dL_law_857 : decode cL_law 857 = .ok (.iaload, 1) := by decide +kernel
theorem dL_law_858 : decode cL_law 858 = .ok (.ifCond .eq 7, 3) := by decide +kernel
theorem dL_law_861 : decode cL_law 861 = .ok (.iconst 1, 1) := by decide +kernel
theorem dL_law_862 : decode cL_law 862 = .ok (.goto 4, 3) := by decide +kernel
theorem dL_law_865 : decode cL_law 865 = .ok (.iconst 0, 1) := by decide +kernel
theorem dL_law_866 : decode cL_law 866 = .ok (.aload_n 3, 1) := by decide +kernel
theorem dL_law_867 : decode cL_law 867 = .ok (.invokestatic 182, 3) := by decide +kernel
theorem dL_law_870 : decode cL_law 870 = .ok (.istore 6, 2) := by decide +kernel
theorem dL_law_872 : decode cL_law 872 = .ok (.aload_n 2, 1) := by decide +kernel
theorem dL_law_873 : decode cL_law 873 = .ok (.aload_n 0, 1) := by decide +kernel
theorem dL_law_874 : decode cL_law 874 = .ok (.iload 5, 2) := by decide +kernel
theorem dL_law_876 : decode cL_law 876 = .ok (.iconst 1, 1) := by decide +kernel
theorem dL_law_877 : decode cL_law 877 = .ok (.iadd, 1) := by decide +kernel
theorem dL_law_878 : decode cL_law 878 = .ok (.iaload, 1) := by decide +kernel
theorem dL_law_879 : decode cL_law 879 = .ok (.ifCond .eq 7, 3) := by decide +kernel
theorem dL_law_882 : decode cL_law 882 = .ok (.iconst 1, 1) := by decide +kernel
theorem dL_law_883 : decode cL_law 883 = .ok (.goto 4, 3) := by decide +kernel
theorem dL_law_886 : decode cL_law 886 = .ok (.iconst 0, 1) := by decide +kernel
theorem dL_law_887 : decode cL_law 887 = .ok (.invokevirtual 185, 3) := by decide +kernel
theorem dL_law_890 : decode cL_law 890 = .ok (.istore 7, 2) := by decide +kernel
theorem dL_law_892 : decode cL_law 892 = .ok (.goto 153, 3) := by decide +kernel
theorem dL_law_895 : decode cL_law 895 = .ok (.aload_n 1, 1) := by decide +kernel
theorem dL_law_896 : decode cL_law 896 = .ok (.aload_n 0, 1) := by decide +kernel
theorem dL_law_897 : decode cL_law 897 = .ok (.iload 5, 2) := by decide +kernel
theorem dL_law_899 : decode cL_law 899 = .ok (.iconst 1, 1) := by decide +kernel
theorem dL_law_900 : decode cL_law 900 = .ok (.iadd, 1) := by decide +kernel
theorem dL_law_901 : decode cL_law 901 = .ok (.iaload, 1) := by decide +kernel
theorem dL_law_902 : decode cL_law 902 = .ok (.aload_n 3, 1) := by decide +kernel
theorem dL_law_903 : decode cL_law 903 = .ok (.invokestatic 186, 3) := by decide +kernel
theorem dL_law_906 : decode cL_law 906 = .ok (.istore 6, 2) := by decide +kernel
theorem dL_law_908 : decode cL_law 908 = .ok (.aload_n 2, 1) := by decide +kernel
theorem dL_law_909 : decode cL_law 909 = .ok (.aload_n 0, 1) := by decide +kernel
theorem dL_law_910 : decode cL_law 910 = .ok (.iload 5, 2) := by decide +kernel
theorem dL_law_912 : decode cL_law 912 = .ok (.iconst 1, 1) := by decide +kernel
theorem dL_law_913 : decode cL_law 913 = .ok (.iadd, 1) := by decide +kernel
theorem dL_law_914 : decode cL_law 914 = .ok (.iaload, 1) := by decide +kernel
theorem dL_law_915 : decode cL_law 915 = .ok (.invokevirtual 188, 3) := by decide +kernel
theorem dL_law_918 : decode cL_law 918 = .ok (.istore 7, 2) := by decide +kernel
theorem dL_law_920 : decode cL_law 920 = .ok (.goto 125, 3) := by decide +kernel
theorem dL_law_923 : decode cL_law 923 = .ok (.aload_n 1, 1) := by decide +kernel
theorem dL_law_924 : decode cL_law 924 = .ok (.aload_n 0, 1) := by decide +kernel
theorem dL_law_925 : decode cL_law 925 = .ok (.iload 5, 2) := by decide +kernel
theorem dL_law_927 : decode cL_law 927 = .ok (.iconst 1, 1) := by decide +kernel
theorem dL_law_928 : decode cL_law 928 = .ok (.iadd, 1) := by decide +kernel
theorem dL_law_929 : decode cL_law 929 = .ok (.iaload, 1) := by decide +kernel
theorem dL_law_930 : decode cL_law 930 = .ok (.aload_n 3, 1) := by decide +kernel
theorem dL_law_931 : decode cL_law 931 = .ok (.invokestatic 189, 3) := by decide +kernel
theorem dL_law_934 : decode cL_law 934 = .ok (.istore 6, 2) := by decide +kernel
theorem dL_law_936 : decode cL_law 936 = .ok (.aload_n 2, 1) := by decide +kernel
theorem dL_law_937 : decode cL_law 937 = .ok (.aload_n 0, 1) := by decide +kernel
theorem dL_law_938 : decode cL_law 938 = .ok (.iload 5, 2) := by decide +kernel
theorem dL_law_940 : decode cL_law 940 = .ok (.iconst 1, 1) := by decide +kernel
theorem dL_law_941 : decode cL_law 941 = .ok (.iadd, 1) := by decide +kernel
theorem dL_law_942 : decode cL_law 942 = .ok (.iaload, 1) := by decide +kernel
theorem dL_law_943 : decode cL_law 943 = .ok (.invokevirtual 191, 3) := by decide +kernel
theorem dL_law_946 : decode cL_law 946 = .ok (.istore 7, 2) := by decide +kernel
theorem dL_law_948 : decode cL_law 948 = .ok (.goto 97, 3) := by decide +kernel
theorem dL_law_951 : decode cL_law 951 = .ok (.aload_n 1, 1) := by decide +kernel
theorem dL_law_952 : decode cL_law 952 = .ok (.aload 4, 2) := by decide +kernel
theorem dL_law_954 : decode cL_law 954 = .ok (.invokestatic 192, 3) := by decide +kernel
theorem dL_law_957 : decode cL_law 957 = .ok (.istore 6, 2) := by decide +kernel
theorem dL_law_959 : decode cL_law 959 = .ok (.aload_n 2, 1) := by decide +kernel
theorem dL_law_960 : decode cL_law 960 = .ok (.invokevirtual 195, 3) := by decide +kernel
theorem dL_law_963 : decode cL_law 963 = .ok (.fstore 7, 2) := by decide +kernel
theorem dL_law_965 : decode cL_law 965 = .ok (.goto 80, 3) := by decide +kernel
theorem dL_law_968 : decode cL_law 968 = .ok (.aload_n 1, 1) := by decide +kernel
theorem dL_law_969 : decode cL_law 969 = .ok (.aload_n 0, 1) := by decide +kernel
theorem dL_law_970 : decode cL_law 970 = .ok (.iload 5, 2) := by decide +kernel
theorem dL_law_972 : decode cL_law 972 = .ok (.iconst 1, 1) := by decide +kernel
theorem dL_law_973 : decode cL_law 973 = .ok (.iadd, 1) := by decide +kernel
theorem dL_law_974 : decode cL_law 974 = .ok (.iaload, 1) := by decide +kernel
theorem dL_law_975 : decode cL_law 975 = .ok (.aload 4, 2) := by decide +kernel
theorem dL_law_977 : decode cL_law 977 = .ok (.invokestatic 196, 3) := by decide +kernel
theorem dL_law_980 : decode cL_law 980 = .ok (.istore 6, 2) := by decide +kernel
theorem dL_law_982 : decode cL_law 982 = .ok (.aload_n 2, 1) := by decide +kernel
theorem dL_law_983 : decode cL_law 983 = .ok (.aload_n 0, 1) := by decide +kernel
theorem dL_law_984 : decode cL_law 984 = .ok (.iload 5, 2) := by decide +kernel
theorem dL_law_986 : decode cL_law 986 = .ok (.iconst 1, 1) := by decide +kernel
theorem dL_law_987 : decode cL_law 987 = .ok (.iadd, 1) := by decide +kernel
theorem dL_law_988 : decode cL_law 988 = .ok (.iaload, 1) := by decide +kernel
theorem dL_law_989 : decode cL_law 989 = .ok (.invokevirtual 199, 3) := by decide +kernel
theorem dL_law_992 : decode cL_law 992 = .ok (.dstore 7, 2) := by decide +kernel
theorem dL_law_994 : decode cL_law 994 = .ok (.aload_n 2, 1) := by decide +kernel
theorem dL_law_995 : decode cL_law 995 = .ok (.invokevirtual 200, 3) := by decide +kernel
theorem dL_law_998 : decode cL_law 998 = .ok (.iload 6, 2) := by decide +kernel
theorem dL_law_1000 : decode cL_law 1000 = .ok (.if_icmp .eq 5, 3) := by decide +kernel
theorem dL_law_1003 : decode cL_law 1003 = .ok (.iconst 0, 1) := by decide +kernel
theorem dL_law_1004 : decode cL_law 1004 = .ok (.ireturn, 1) := by decide +kernel
theorem dL_law_1005 : decode cL_law 1005 = .ok (.iload 6, 2) := by decide +kernel
theorem dL_law_1007 : decode cL_law 1007 = .ok (.ifCond .ne 35, 3) := by decide +kernel
theorem dL_law_1010 : decode cL_law 1010 = .ok (.aload 4, 2) := by decide +kernel
theorem dL_law_1012 : decode cL_law 1012 = .ok (.iconst 0, 1) := by decide +kernel
theorem dL_law_1013 : decode cL_law 1013 = .ok (.daload, 1) := by decide +kernel
theorem dL_law_1014 : decode cL_law 1014 = .ok (.dload 7, 2) := by decide +kernel
theorem dL_law_1016 : decode cL_law 1016 = .ok (.dcmp .l, 1) := by decide +kernel
theorem dL_law_1017 : decode cL_law 1017 = .ok (.ifCond .eq 25, 3) := by decide +kernel
theorem dL_law_1020 : decode cL_law 1020 = .ok (.aload 4, 2) := by decide +kernel
theorem dL_law_1022 : decode cL_law 1022 = .ok (.iconst 0, 1) := by decide +kernel
theorem dL_law_1023 : decode cL_law 1023 = .ok (.daload, 1) := by decide +kernel
theorem dL_law_1024 : decode cL_law 1024 = .ok (.aload 4, 2) := by decide +kernel
theorem dL_law_1026 : decode cL_law 1026 = .ok (.iconst 0, 1) := by decide +kernel
theorem dL_law_1027 : decode cL_law 1027 = .ok (.daload, 1) := by decide +kernel
theorem dL_law_1028 : decode cL_law 1028 = .ok (.dcmp .l, 1) := by decide +kernel
theorem dL_law_1029 : decode cL_law 1029 = .ok (.ifCond .eq 11, 3) := by decide +kernel
theorem dL_law_1032 : decode cL_law 1032 = .ok (.dload 7, 2) := by decide +kernel
theorem dL_law_1034 : decode cL_law 1034 = .ok (.dload 7, 2) := by decide +kernel
theorem dL_law_1036 : decode cL_law 1036 = .ok (.dcmp .l, 1) := by decide +kernel
theorem dL_law_1037 : decode cL_law 1037 = .ok (.ifCond .ne 5, 3) := by decide +kernel
theorem dL_law_1040 : decode cL_law 1040 = .ok (.iconst 0, 1) := by decide +kernel
theorem dL_law_1041 : decode cL_law 1041 = .ok (.ireturn, 1) := by decide +kernel
theorem dL_law_1042 : decode cL_law 1042 = .ok (.goto 3, 3) := by decide +kernel
theorem dL_law_1045 : decode cL_law 1045 = .ok (.iinc 5 4, 3) := by decide +kernel
theorem dL_law_1048 : decode cL_law 1048 = .ok (.goto (-1020), 3) := by decide +kernel
theorem dL_law_1051 : decode cL_law 1051 = .ok (.iconst 1, 1) := by decide +kernel
theorem dL_law_1052 : decode cL_law 1052 = .ok (.ireturn, 1) := by decide +kernel

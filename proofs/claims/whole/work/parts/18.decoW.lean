theorem d_W_stop_0 : decode b_W_stop 0 = .ok (.aload 4, 2) := by decide +kernel
theorem d_W_stop_2 : decode b_W_stop 2 = .ok (.iconst 0, 1) := by decide +kernel
theorem d_W_stop_3 : decode b_W_stop 3 = .ok (.aload_n 0, 1) := by decide +kernel
theorem d_W_stop_4 : decode b_W_stop 4 = .ok (.iload_n 1, 1) := by decide +kernel
theorem d_W_stop_5 : decode b_W_stop 5 = .ok (.iload_n 2, 1) := by decide +kernel
theorem d_W_stop_6 : decode b_W_stop 6 = .ok (.iload_n 3, 1) := by decide +kernel
theorem d_W_stop_7 : decode b_W_stop 7 = .ok (.invokevirtual 7, 3) := by decide +kernel
theorem d_W_stop_10 : decode b_W_stop 10 = .ok (.i2l, 1) := by decide +kernel
theorem d_W_stop_11 : decode b_W_stop 11 = .ok (.lastore, 1) := by decide +kernel
theorem d_W_stop_12 : decode b_W_stop 12 = .ok (.goto 11, 3) := by decide +kernel
theorem d_W_stop_15 : decode b_W_stop 15 = .ok (.astore 5, 2) := by decide +kernel
theorem d_W_stop_17 : decode b_W_stop 17 = .ok (.iconst 1, 1) := by decide +kernel
theorem d_W_stop_18 : decode b_W_stop 18 = .ok (.ireturn, 1) := by decide +kernel
theorem d_W_stop_19 : decode b_W_stop 19 = .ok (.astore 5, 2) := by decide +kernel
theorem d_W_stop_21 : decode b_W_stop 21 = .ok (.iconst 2, 1) := by decide +kernel
theorem d_W_stop_22 : decode b_W_stop 22 = .ok (.ireturn, 1) := by decide +kernel
theorem d_W_stop_23 : decode b_W_stop 23 = .ok (.iconst 0, 1) := by decide +kernel
theorem d_W_stop_24 : decode b_W_stop 24 = .ok (.ireturn, 1) := by decide +kernel
theorem d_W_publish_0 : decode b_W_publish 0 = .ok (.aload_n 1, 1) := by decide +kernel
theorem d_W_publish_1 : decode b_W_publish 1 = .ok (.iconst 0, 1) := by decide +kernel
theorem d_W_publish_2 : decode b_W_publish 2 = .ok (.aload_n 0, 1) := by decide +kernel
theorem d_W_publish_3 : decode b_W_publish 3 = .ok (.invokevirtual 17, 3) := by decide +kernel
theorem d_W_publish_6 : decode b_W_publish 6 = .ok (.i2l, 1) := by decide +kernel
theorem d_W_publish_7 : decode b_W_publish 7 = .ok (.lastore, 1) := by decide +kernel
theorem d_W_publish_8 : decode b_W_publish 8 = .ok (.goto 6, 3) := by decide +kernel
theorem d_W_publish_11 : decode b_W_publish 11 = .ok (.astore_n 2, 1) := by decide +kernel
theorem d_W_publish_12 : decode b_W_publish 12 = .ok (.iconst 1, 1) := by decide +kernel
theorem d_W_publish_13 : decode b_W_publish 13 = .ok (.ireturn, 1) := by decide +kernel
theorem d_W_publish_14 : decode b_W_publish 14 = .ok (.iconst 0, 1) := by decide +kernel
theorem d_W_publish_15 : decode b_W_publish 15 = .ok (.ireturn, 1) := by decide +kernel
theorem d_W_household_0 : decode b_W_household 0 = .ok (.aload_n 0, 1) := by decide +kernel
theorem d_W_household_1 : decode b_W_household 1 = .ok (.iload_n 1, 1) := by decide +kernel
theorem d_W_household_2 : decode b_W_household 2 = .ok (.iload_n 2, 1) := by decide +kernel
theorem d_W_household_3 : decode b_W_household 3 = .ok (.iload_n 3, 1) := by decide +kernel
theorem d_W_household_4 : decode b_W_household 4 = .ok (.invokevirtual 21, 3) := by decide +kernel
theorem d_W_household_7 : decode b_W_household 7 = .ok (.goto 7, 3) := by decide +kernel
theorem d_W_household_10 : decode b_W_household 10 = .ok (.astore 4, 2) := by decide +kernel
theorem d_W_household_12 : decode b_W_household 12 = .ok (.iconst 1, 1) := by decide +kernel
theorem d_W_household_13 : decode b_W_household 13 = .ok (.ireturn, 1) := by decide +kernel
theorem d_W_household_14 : decode b_W_household 14 = .ok (.iconst 0, 1) := by decide +kernel
theorem d_W_household_15 : decode b_W_household 15 = .ok (.ireturn, 1) := by decide +kernel
theorem d_W_group_0 : decode b_W_group 0 = .ok (.aload 4, 2) := by decide +kernel
theorem d_W_group_2 : decode b_W_group 2 = .ok (.iconst 0, 1) := by decide +kernel
theorem d_W_group_3 : decode b_W_group 3 = .ok (.aload_n 0, 1) := by decide +kernel
theorem d_W_group_4 : decode b_W_group 4 = .ok (.iload_n 1, 1) := by decide +kernel
theorem d_W_group_5 : decode b_W_group 5 = .ok (.iload_n 2, 1) := by decide +kernel
theorem d_W_group_6 : decode b_W_group 6 = .ok (.iload_n 3, 1) := by decide +kernel
theorem d_W_group_7 : decode b_W_group 7 = .ok (.invokevirtual 25, 3) := by decide +kernel
theorem d_W_group_10 : decode b_W_group 10 = .ok (.ifCond .eq 7, 3) := by decide +kernel
theorem d_W_group_13 : decode b_W_group 13 = .ok (.lconst 1, 1) := by decide +kernel
theorem d_W_group_14 : decode b_W_group 14 = .ok (.goto 4, 3) := by decide +kernel
theorem d_W_group_17 : decode b_W_group 17 = .ok (.lconst 0, 1) := by decide +kernel
theorem d_W_group_18 : decode b_W_group 18 = .ok (.lastore, 1) := by decide +kernel
theorem d_W_group_19 : decode b_W_group 19 = .ok (.goto 7, 3) := by decide +kernel
theorem d_W_group_22 : decode b_W_group 22 = .ok (.astore 5, 2) := by decide +kernel
theorem d_W_group_24 : decode b_W_group 24 = .ok (.iconst 1, 1) := by decide +kernel
theorem d_W_group_25 : decode b_W_group 25 = .ok (.ireturn, 1) := by decide +kernel
theorem d_W_group_26 : decode b_W_group 26 = .ok (.iconst 0, 1) := by decide +kernel
theorem d_W_group_27 : decode b_W_group 27 = .ok (.ireturn, 1) := by decide +kernel
theorem d_W_post_0 : decode b_W_post 0 = .ok (.aload 5, 2) := by decide +kernel
theorem d_W_post_2 : decode b_W_post 2 = .ok (.iconst 0, 1) := by decide +kernel
theorem d_W_post_3 : decode b_W_post 3 = .ok (.aload_n 0, 1) := by decide +kernel
theorem d_W_post_4 : decode b_W_post 4 = .ok (.iload_n 1, 1) := by decide +kernel
theorem d_W_post_5 : decode b_W_post 5 = .ok (.iload_n 2, 1) := by decide +kernel
theorem d_W_post_6 : decode b_W_post 6 = .ok (.iload_n 3, 1) := by decide +kernel
theorem d_W_post_7 : decode b_W_post 7 = .ok (.iload 4, 2) := by decide +kernel
theorem d_W_post_9 : decode b_W_post 9 = .ok (.invokevirtual 29, 3) := by decide +kernel
theorem d_W_post_12 : decode b_W_post 12 = .ok (.i2l, 1) := by decide +kernel
theorem d_W_post_13 : decode b_W_post 13 = .ok (.lastore, 1) := by decide +kernel
theorem d_W_post_14 : decode b_W_post 14 = .ok (.goto 11, 3) := by decide +kernel
theorem d_W_post_17 : decode b_W_post 17 = .ok (.astore 6, 2) := by decide +kernel
theorem d_W_post_19 : decode b_W_post 19 = .ok (.iconst 1, 1) := by decide +kernel
theorem d_W_post_20 : decode b_W_post 20 = .ok (.ireturn, 1) := by decide +kernel
theorem d_W_post_21 : decode b_W_post 21 = .ok (.astore 6, 2) := by decide +kernel
theorem d_W_post_23 : decode b_W_post 23 = .ok (.iconst 2, 1) := by decide +kernel
theorem d_W_post_24 : decode b_W_post 24 = .ok (.ireturn, 1) := by decide +kernel
theorem d_W_post_25 : decode b_W_post 25 = .ok (.iconst 0, 1) := by decide +kernel
theorem d_W_post_26 : decode b_W_post 26 = .ok (.ireturn, 1) := by decide +kernel
theorem d_W_minute_0 : decode b_W_minute 0 = .ok (.aload_n 2, 1) := by decide +kernel
theorem d_W_minute_1 : decode b_W_minute 1 = .ok (.iconst 0, 1) := by decide +kernel
theorem d_W_minute_2 : decode b_W_minute 2 = .ok (.aload_n 0, 1) := by decide +kernel
theorem d_W_minute_3 : decode b_W_minute 3 = .ok (.iload_n 1, 1) := by decide +kernel
theorem d_W_minute_4 : decode b_W_minute 4 = .ok (.invokevirtual 33, 3) := by decide +kernel
theorem d_W_minute_7 : decode b_W_minute 7 = .ok (.i2l, 1) := by decide +kernel
theorem d_W_minute_8 : decode b_W_minute 8 = .ok (.lastore, 1) := by decide +kernel
theorem d_W_minute_9 : decode b_W_minute 9 = .ok (.goto 6, 3) := by decide +kernel
theorem d_W_minute_12 : decode b_W_minute 12 = .ok (.astore_n 3, 1) := by decide +kernel
theorem d_W_minute_13 : decode b_W_minute 13 = .ok (.iconst 1, 1) := by decide +kernel
theorem d_W_minute_14 : decode b_W_minute 14 = .ok (.ireturn, 1) := by decide +kernel
theorem d_W_minute_15 : decode b_W_minute 15 = .ok (.iconst 0, 1) := by decide +kernel
theorem d_W_minute_16 : decode b_W_minute 16 = .ok (.ireturn, 1) := by decide +kernel
theorem d_W_meet_0 : decode b_W_meet 0 = .ok (.aload 4, 2) := by decide +kernel
theorem d_W_meet_2 : decode b_W_meet 2 = .ok (.iconst 0, 1) := by decide +kernel
theorem d_W_meet_3 : decode b_W_meet 3 = .ok (.aload_n 0, 1) := by decide +kernel
theorem d_W_meet_4 : decode b_W_meet 4 = .ok (.iload_n 1, 1) := by decide +kernel
theorem d_W_meet_5 : decode b_W_meet 5 = .ok (.iload_n 2, 1) := by decide +kernel
theorem d_W_meet_6 : decode b_W_meet 6 = .ok (.iload_n 3, 1) := by decide +kernel
theorem d_W_meet_7 : decode b_W_meet 7 = .ok (.invokevirtual 37, 3) := by decide +kernel
theorem d_W_meet_10 : decode b_W_meet 10 = .ok (.i2l, 1) := by decide +kernel
theorem d_W_meet_11 : decode b_W_meet 11 = .ok (.lastore, 1) := by decide +kernel
theorem d_W_meet_12 : decode b_W_meet 12 = .ok (.goto 7, 3) := by decide +kernel
theorem d_W_meet_15 : decode b_W_meet 15 = .ok (.astore 5, 2) := by decide +kernel
theorem d_W_meet_17 : decode b_W_meet 17 = .ok (.iconst 1, 1) := by decide +kernel
theorem d_W_meet_18 : decode b_W_meet 18 = .ok (.ireturn, 1) := by decide +kernel
theorem d_W_meet_19 : decode b_W_meet 19 = .ok (.iconst 0, 1) := by decide +kernel
theorem d_W_meet_20 : decode b_W_meet 20 = .ok (.ireturn, 1) := by decide +kernel
theorem d_W_breakOff_0 : decode b_W_breakOff 0 = .ok (.aload 4, 2) := by decide +kernel
theorem d_W_breakOff_2 : decode b_W_breakOff 2 = .ok (.iconst 0, 1) := by decide +kernel
theorem d_W_breakOff_3 : decode b_W_breakOff 3 = .ok (.aload_n 0, 1) := by decide +kernel
theorem d_W_breakOff_4 : decode b_W_breakOff 4 = .ok (.iload_n 1, 1) := by decide +kernel
theorem d_W_breakOff_5 : decode b_W_breakOff 5 = .ok (.iload_n 2, 1) := by decide +kernel
theorem d_W_breakOff_6 : decode b_W_breakOff 6 = .ok (.iload_n 3, 1) := by decide +kernel
theorem d_W_breakOff_7 : decode b_W_breakOff 7 = .ok (.invokevirtual 40, 3) := by decide +kernel
theorem d_W_breakOff_10 : decode b_W_breakOff 10 = .ok (.i2l, 1) := by decide +kernel
theorem d_W_breakOff_11 : decode b_W_breakOff 11 = .ok (.lastore, 1) := by decide +kernel
theorem d_W_breakOff_12 : decode b_W_breakOff 12 = .ok (.goto 7, 3) := by decide +kernel
theorem d_W_breakOff_15 : decode b_W_breakOff 15 = .ok (.astore 5, 2) := by decide +kernel
theorem d_W_breakOff_17 : decode b_W_breakOff 17 = .ok (.iconst 1, 1) := by decide +kernel
theorem d_W_breakOff_18 : decode b_W_breakOff 18 = .ok (.ireturn, 1) := by decide +kernel
theorem d_W_breakOff_19 : decode b_W_breakOff 19 = .ok (.iconst 0, 1) := by decide +kernel
theorem d_W_breakOff_20 : decode b_W_breakOff 20 = .ok (.ireturn, 1) := by decide +kernel
theorem d_W_reboot_0 : decode b_W_reboot 0 = .ok (.aload_n 0, 1) := by decide +kernel
theorem d_W_reboot_1 : decode b_W_reboot 1 = .ok (.iload_n 1, 1) := by decide +kernel
theorem d_W_reboot_2 : decode b_W_reboot 2 = .ok (.invokevirtual 43, 3) := by decide +kernel
theorem d_W_reboot_5 : decode b_W_reboot 5 = .ok (.goto 6, 3) := by decide +kernel
theorem d_W_reboot_8 : decode b_W_reboot 8 = .ok (.astore_n 2, 1) := by decide +kernel
theorem d_W_reboot_9 : decode b_W_reboot 9 = .ok (.iconst 1, 1) := by decide +kernel
theorem d_W_reboot_10 : decode b_W_reboot 10 = .ok (.ireturn, 1) := by decide +kernel
theorem d_W_reboot_11 : decode b_W_reboot 11 = .ok (.iconst 0, 1) := by decide +kernel
theorem d_W_reboot_12 : decode b_W_reboot 12 = .ok (.ireturn, 1) := by decide +kernel
theorem d_W_spoil_0 : decode b_W_spoil 0 = .ok (.aload 6, 2) := by decide +kernel
theorem d_W_spoil_2 : decode b_W_spoil 2 = .ok (.iconst 0, 1) := by decide +kernel
theorem d_W_spoil_3 : decode b_W_spoil 3 = .ok (.aload_n 0, 1) := by decide +kernel
theorem d_W_spoil_4 : decode b_W_spoil 4 = .ok (.iload_n 1, 1) := by decide +kernel
theorem d_W_spoil_5 : decode b_W_spoil 5 = .ok (.iload_n 2, 1) := by decide +kernel
theorem d_W_spoil_6 : decode b_W_spoil 6 = .ok (.iload_n 3, 1) := by decide +kernel
theorem d_W_spoil_7 : decode b_W_spoil 7 = .ok (.iload 4, 2) := by decide +kernel
theorem d_W_spoil_9 : decode b_W_spoil 9 = .ok (.iload 5, 2) := by decide +kernel
theorem d_W_spoil_11 : decode b_W_spoil 11 = .ok (.invokevirtual 47, 3) := by decide +kernel
theorem d_W_spoil_14 : decode b_W_spoil 14 = .ok (.i2l, 1) := by decide +kernel
theorem d_W_spoil_15 : decode b_W_spoil 15 = .ok (.lastore, 1) := by decide +kernel
theorem d_W_spoil_16 : decode b_W_spoil 16 = .ok (.goto 11, 3) := by decide +kernel
theorem d_W_spoil_19 : decode b_W_spoil 19 = .ok (.astore 7, 2) := by decide +kernel
theorem d_W_spoil_21 : decode b_W_spoil 21 = .ok (.iconst 1, 1) := by decide +kernel
theorem d_W_spoil_22 : decode b_W_spoil 22 = .ok (.ireturn, 1) := by decide +kernel
theorem d_W_spoil_23 : decode b_W_spoil 23 = .ok (.astore 7, 2) := by decide +kernel
theorem d_W_spoil_25 : decode b_W_spoil 25 = .ok (.iconst 2, 1) := by decide +kernel
theorem d_W_spoil_26 : decode b_W_spoil 26 = .ok (.ireturn, 1) := by decide +kernel
theorem d_W_spoil_27 : decode b_W_spoil 27 = .ok (.iconst 0, 1) := by decide +kernel
theorem d_W_spoil_28 : decode b_W_spoil 28 = .ok (.ireturn, 1) := by decide +kernel
theorem d_W_box_0 : decode b_W_box 0 = .ok (.aload 4, 2) := by decide +kernel
theorem d_W_box_2 : decode b_W_box 2 = .ok (.iconst 0, 1) := by decide +kernel
theorem d_W_box_3 : decode b_W_box 3 = .ok (.aload_n 0, 1) := by decide +kernel
theorem d_W_box_4 : decode b_W_box 4 = .ok (.iload_n 1, 1) := by decide +kernel
theorem d_W_box_5 : decode b_W_box 5 = .ok (.iload_n 2, 1) := by decide +kernel
theorem d_W_box_6 : decode b_W_box 6 = .ok (.iload_n 3, 1) := by decide +kernel
theorem d_W_box_7 : decode b_W_box 7 = .ok (.invokevirtual 53, 3) := by decide +kernel
theorem d_W_box_10 : decode b_W_box 10 = .ok (.i2l, 1) := by decide +kernel
theorem d_W_box_11 : decode b_W_box 11 = .ok (.lastore, 1) := by decide +kernel
theorem d_W_box_12 : decode b_W_box 12 = .ok (.goto 7, 3) := by decide +kernel
theorem d_W_box_15 : decode b_W_box 15 = .ok (.astore 5, 2) := by decide +kernel
theorem d_W_box_17 : decode b_W_box 17 = .ok (.iconst 1, 1) := by decide +kernel
theorem d_W_box_18 : decode b_W_box 18 = .ok (.ireturn, 1) := by decide +kernel
theorem d_W_box_19 : decode b_W_box 19 = .ok (.iconst 0, 1) := by decide +kernel
theorem d_W_box_20 : decode b_W_box 20 = .ok (.ireturn, 1) := by decide +kernel
theorem d_W_read_0 : decode b_W_read 0 = .ok (.aload 5, 2) := by decide +kernel
theorem d_W_read_2 : decode b_W_read 2 = .ok (.iconst 0, 1) := by decide +kernel
theorem d_W_read_3 : decode b_W_read 3 = .ok (.aload_n 0, 1) := by decide +kernel
theorem d_W_read_4 : decode b_W_read 4 = .ok (.iload_n 1, 1) := by decide +kernel
theorem d_W_read_5 : decode b_W_read 5 = .ok (.iload_n 2, 1) := by decide +kernel
theorem d_W_read_6 : decode b_W_read 6 = .ok (.iload_n 3, 1) := by decide +kernel
theorem d_W_read_7 : decode b_W_read 7 = .ok (.iload 4, 2) := by decide +kernel
theorem d_W_read_9 : decode b_W_read 9 = .ok (.invokevirtual 56, 3) := by decide +kernel
theorem d_W_read_12 : decode b_W_read 12 = .ok (.i2l, 1) := by decide +kernel
theorem d_W_read_13 : decode b_W_read 13 = .ok (.lastore, 1) := by decide +kernel
theorem d_W_read_14 : decode b_W_read 14 = .ok (.goto 11, 3) := by decide +kernel
theorem d_W_read_17 : decode b_W_read 17 = .ok (.astore 6, 2) := by decide +kernel
theorem d_W_read_19 : decode b_W_read 19 = .ok (.iconst 1, 1) := by decide +kernel
theorem d_W_read_20 : decode b_W_read 20 = .ok (.ireturn, 1) := by decide +kernel
theorem d_W_read_21 : decode b_W_read 21 = .ok (.astore 6, 2) := by decide +kernel
theorem d_W_read_23 : decode b_W_read 23 = .ok (.iconst 2, 1) := by decide +kernel
theorem d_W_read_24 : decode b_W_read 24 = .ok (.ireturn, 1) := by decide +kernel
theorem d_W_read_25 : decode b_W_read 25 = .ok (.iconst 0, 1) := by decide +kernel
theorem d_W_read_26 : decode b_W_read 26 = .ok (.ireturn, 1) := by decide +kernel
theorem d_W_remove_0 : decode b_W_remove 0 = .ok (.aload 4, 2) := by decide +kernel
theorem d_W_remove_2 : decode b_W_remove 2 = .ok (.iconst 0, 1) := by decide +kernel
theorem d_W_remove_3 : decode b_W_remove 3 = .ok (.aload_n 0, 1) := by decide +kernel
theorem d_W_remove_4 : decode b_W_remove 4 = .ok (.iload_n 1, 1) := by decide +kernel
theorem d_W_remove_5 : decode b_W_remove 5 = .ok (.iload_n 2, 1) := by decide +kernel
theorem d_W_remove_6 : decode b_W_remove 6 = .ok (.iload_n 3, 1) := by decide +kernel
theorem d_W_remove_7 : decode b_W_remove 7 = .ok (.invokevirtual 61, 3) := by decide +kernel
theorem d_W_remove_10 : decode b_W_remove 10 = .ok (.i2l, 1) := by decide +kernel
theorem d_W_remove_11 : decode b_W_remove 11 = .ok (.lastore, 1) := by decide +kernel
theorem d_W_remove_12 : decode b_W_remove 12 = .ok (.goto 11, 3) := by decide +kernel
theorem d_W_remove_15 : decode b_W_remove 15 = .ok (.astore 5, 2) := by decide +kernel
theorem d_W_remove_17 : decode b_W_remove 17 = .ok (.iconst 1, 1) := by decide +kernel
theorem d_W_remove_18 : decode b_W_remove 18 = .ok (.ireturn, 1) := by decide +kernel
theorem d_W_remove_19 : decode b_W_remove 19 = .ok (.astore 5, 2) := by decide +kernel
theorem d_W_remove_21 : decode b_W_remove 21 = .ok (.iconst 2, 1) := by decide +kernel
theorem d_W_remove_22 : decode b_W_remove 22 = .ok (.ireturn, 1) := by decide +kernel
theorem d_W_remove_23 : decode b_W_remove 23 = .ok (.iconst 0, 1) := by decide +kernel
theorem d_W_remove_24 : decode b_W_remove 24 = .ok (.ireturn, 1) := by decide +kernel
theorem d_W_status_0 : decode b_W_status 0 = .ok (.aload_n 2, 1) := by decide +kernel
theorem d_W_status_1 : decode b_W_status 1 = .ok (.iconst 0, 1) := by decide +kernel
theorem d_W_status_2 : decode b_W_status 2 = .ok (.aload_n 0, 1) := by decide +kernel
theorem d_W_status_3 : decode b_W_status 3 = .ok (.iload_n 1, 1) := by decide +kernel
theorem d_W_status_4 : decode b_W_status 4 = .ok (.invokevirtual 64, 3) := by decide +kernel
theorem d_W_status_7 : decode b_W_status 7 = .ok (.i2l, 1) := by decide +kernel
theorem d_W_status_8 : decode b_W_status 8 = .ok (.lastore, 1) := by decide +kernel
theorem d_W_status_9 : decode b_W_status 9 = .ok (.goto 6, 3) := by decide +kernel
theorem d_W_status_12 : decode b_W_status 12 = .ok (.astore_n 3, 1) := by decide +kernel
theorem d_W_status_13 : decode b_W_status 13 = .ok (.iconst 1, 1) := by decide +kernel
theorem d_W_status_14 : decode b_W_status 14 = .ok (.ireturn, 1) := by decide +kernel
theorem d_W_status_15 : decode b_W_status 15 = .ok (.iconst 0, 1) := by decide +kernel
theorem d_W_status_16 : decode b_W_status 16 = .ok (.ireturn, 1) := by decide +kernel
theorem d_W_custodians_0 : decode b_W_custodians 0 = .ok (.aload_n 2, 1) := by decide +kernel
theorem d_W_custodians_1 : decode b_W_custodians 1 = .ok (.iconst 0, 1) := by decide +kernel
theorem d_W_custodians_2 : decode b_W_custodians 2 = .ok (.aload_n 0, 1) := by decide +kernel
theorem d_W_custodians_3 : decode b_W_custodians 3 = .ok (.iload_n 1, 1) := by decide +kernel
theorem d_W_custodians_4 : decode b_W_custodians 4 = .ok (.invokevirtual 67, 3) := by decide +kernel
theorem d_W_custodians_7 : decode b_W_custodians 7 = .ok (.i2l, 1) := by decide +kernel
theorem d_W_custodians_8 : decode b_W_custodians 8 = .ok (.lastore, 1) := by decide +kernel
theorem d_W_custodians_9 : decode b_W_custodians 9 = .ok (.goto 6, 3) := by decide +kernel
theorem d_W_custodians_12 : decode b_W_custodians 12 = .ok (.astore_n 3, 1) := by decide +kernel
theorem d_W_custodians_13 : decode b_W_custodians 13 = .ok (.iconst 1, 1) := by decide +kernel
theorem d_W_custodians_14 : decode b_W_custodians 14 = .ok (.ireturn, 1) := by decide +kernel
theorem d_W_custodians_15 : decode b_W_custodians 15 = .ok (.iconst 0, 1) := by decide +kernel
theorem d_W_custodians_16 : decode b_W_custodians 16 = .ok (.ireturn, 1) := by decide +kernel
theorem d_W_promise_0 : decode b_W_promise 0 = .ok (.aload_n 2, 1) := by decide +kernel
theorem d_W_promise_1 : decode b_W_promise 1 = .ok (.iconst 0, 1) := by decide +kernel
theorem d_W_promise_2 : decode b_W_promise 2 = .ok (.aload_n 0, 1) := by decide +kernel
theorem d_W_promise_3 : decode b_W_promise 3 = .ok (.iload_n 1, 1) := by decide +kernel
theorem d_W_promise_4 : decode b_W_promise 4 = .ok (.invokevirtual 70, 3) := by decide +kernel
theorem d_W_promise_7 : decode b_W_promise 7 = .ok (.i2l, 1) := by decide +kernel
theorem d_W_promise_8 : decode b_W_promise 8 = .ok (.lastore, 1) := by decide +kernel
theorem d_W_promise_9 : decode b_W_promise 9 = .ok (.goto 6, 3) := by decide +kernel
theorem d_W_promise_12 : decode b_W_promise 12 = .ok (.astore_n 3, 1) := by decide +kernel
theorem d_W_promise_13 : decode b_W_promise 13 = .ok (.iconst 1, 1) := by decide +kernel
theorem d_W_promise_14 : decode b_W_promise 14 = .ok (.ireturn, 1) := by decide +kernel
theorem d_W_promise_15 : decode b_W_promise 15 = .ok (.iconst 0, 1) := by decide +kernel
theorem d_W_promise_16 : decode b_W_promise 16 = .ok (.ireturn, 1) := by decide +kernel
theorem d_W_best_0 : decode b_W_best 0 = .ok (.aload 4, 2) := by decide +kernel
theorem d_W_best_2 : decode b_W_best 2 = .ok (.iconst 0, 1) := by decide +kernel
theorem d_W_best_3 : decode b_W_best 3 = .ok (.aload_n 0, 1) := by decide +kernel
theorem d_W_best_4 : decode b_W_best 4 = .ok (.iload_n 1, 1) := by decide +kernel
theorem d_W_best_5 : decode b_W_best 5 = .ok (.iload_n 2, 1) := by decide +kernel
theorem d_W_best_6 : decode b_W_best 6 = .ok (.iload_n 3, 1) := by decide +kernel
theorem d_W_best_7 : decode b_W_best 7 = .ok (.invokevirtual 73, 3) := by decide +kernel
theorem d_W_best_10 : decode b_W_best 10 = .ok (.i2l, 1) := by decide +kernel
theorem d_W_best_11 : decode b_W_best 11 = .ok (.lastore, 1) := by decide +kernel
theorem d_W_best_12 : decode b_W_best 12 = .ok (.goto 7, 3) := by decide +kernel
theorem d_W_best_15 : decode b_W_best 15 = .ok (.astore 5, 2) := by decide +kernel
theorem d_W_best_17 : decode b_W_best 17 = .ok (.iconst 1, 1) := by decide +kernel
theorem d_W_best_18 : decode b_W_best 18 = .ok (.ireturn, 1) := by decide +kernel
theorem d_W_best_19 : decode b_W_best 19 = .ok (.iconst 0, 1) := by decide +kernel
theorem d_W_best_20 : decode b_W_best 20 = .ok (.ireturn, 1) := by decide +kernel
theorem d_W_store_0 : decode b_W_store 0 = .ok (.aload_n 3, 1) := by decide +kernel
theorem d_W_store_1 : decode b_W_store 1 = .ok (.iconst 0, 1) := by decide +kernel
theorem d_W_store_2 : decode b_W_store 2 = .ok (.aload_n 0, 1) := by decide +kernel
theorem d_W_store_3 : decode b_W_store 3 = .ok (.iload_n 1, 1) := by decide +kernel
theorem d_W_store_4 : decode b_W_store 4 = .ok (.iload_n 2, 1) := by decide +kernel
theorem d_W_store_5 : decode b_W_store 5 = .ok (.invokevirtual 76, 3) := by decide +kernel
theorem d_W_store_8 : decode b_W_store 8 = .ok (.i2l, 1) := by decide +kernel
theorem d_W_store_9 : decode b_W_store 9 = .ok (.lastore, 1) := by decide +kernel
theorem d_W_store_10 : decode b_W_store 10 = .ok (.goto 7, 3) := by decide +kernel
theorem d_W_store_13 : decode b_W_store 13 = .ok (.astore 4, 2) := by decide +kernel
theorem d_W_store_15 : decode b_W_store 15 = .ok (.iconst 1, 1) := by decide +kernel
theorem d_W_store_16 : decode b_W_store 16 = .ok (.ireturn, 1) := by decide +kernel
theorem d_W_store_17 : decode b_W_store 17 = .ok (.iconst 0, 1) := by decide +kernel
theorem d_W_store_18 : decode b_W_store 18 = .ok (.ireturn, 1) := by decide +kernel

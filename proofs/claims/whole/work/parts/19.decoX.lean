theorem d_X_isBus_0 : decode b_X_isBus 0 = .ok (.iload_n 0, 1) := by decide +kernel
theorem d_X_isBus_1 : decode b_X_isBus 1 = .ok (.bipush 8, 2) := by decide +kernel
theorem d_X_isBus_3 : decode b_X_isBus 3 = .ok (.if_icmp .lt 13, 3) := by decide +kernel
theorem d_X_isBus_6 : decode b_X_isBus 6 = .ok (.iload_n 0, 1) := by decide +kernel
theorem d_X_isBus_7 : decode b_X_isBus 7 = .ok (.bipush 12, 2) := by decide +kernel
theorem d_X_isBus_9 : decode b_X_isBus 9 = .ok (.if_icmp .ge 7, 3) := by decide +kernel
theorem d_X_isBus_12 : decode b_X_isBus 12 = .ok (.iconst 1, 1) := by decide +kernel
theorem d_X_isBus_13 : decode b_X_isBus 13 = .ok (.goto 4, 3) := by decide +kernel
theorem d_X_isBus_16 : decode b_X_isBus 16 = .ok (.iconst 0, 1) := by decide +kernel
theorem d_X_isBus_17 : decode b_X_isBus 17 = .ok (.ireturn, 1) := by decide +kernel
theorem d_X_demand_0 : decode b_X_demand 0 = .ok (.iload_n 0, 1) := by decide +kernel
theorem d_X_demand_1 : decode b_X_demand 1 = .ok (.ifCond .ne 11, 3) := by decide +kernel
theorem d_X_demand_4 : decode b_X_demand 4 = .ok (.new 347, 3) := by decide +kernel
theorem d_X_demand_7 : decode b_X_demand 7 = .ok (.dup, 1) := by decide +kernel
theorem d_X_demand_8 : decode b_X_demand 8 = .ok (.invokespecial 349, 3) := by decide +kernel
theorem d_X_demand_11 : decode b_X_demand 11 = .ok (.athrow, 1) := by decide +kernel
theorem d_X_demand_12 : decode b_X_demand 12 = .ok (.return_, 1) := by decide +kernel
theorem d_X_isWithin_0 : decode b_X_isWithin 0 = .ok (.iload_n 0, 1) := by decide +kernel
theorem d_X_isWithin_1 : decode b_X_isWithin 1 = .ok (.ifCond .lt 12, 3) := by decide +kernel
theorem d_X_isWithin_4 : decode b_X_isWithin 4 = .ok (.iload_n 0, 1) := by decide +kernel
theorem d_X_isWithin_5 : decode b_X_isWithin 5 = .ok (.iload_n 1, 1) := by decide +kernel
theorem d_X_isWithin_6 : decode b_X_isWithin 6 = .ok (.if_icmp .ge 7, 3) := by decide +kernel
theorem d_X_isWithin_9 : decode b_X_isWithin 9 = .ok (.iconst 1, 1) := by decide +kernel
theorem d_X_isWithin_10 : decode b_X_isWithin 10 = .ok (.goto 4, 3) := by decide +kernel
theorem d_X_isWithin_13 : decode b_X_isWithin 13 = .ok (.iconst 0, 1) := by decide +kernel
theorem d_X_isWithin_14 : decode b_X_isWithin 14 = .ok (.ireturn, 1) := by decide +kernel
theorem d_X_isKiosk_0 : decode b_X_isKiosk 0 = .ok (.iload_n 0, 1) := by decide +kernel
theorem d_X_isKiosk_1 : decode b_X_isKiosk 1 = .ok (.bipush 8, 2) := by decide +kernel
theorem d_X_isKiosk_3 : decode b_X_isKiosk 3 = .ok (.invokestatic 74, 3) := by decide +kernel
theorem d_X_isKiosk_6 : decode b_X_isKiosk 6 = .ok (.ireturn, 1) := by decide +kernel
theorem d_X_stop_0 : decode b_X_stop 0 = .ok (.iload_n 1, 1) := by decide +kernel
theorem d_X_stop_1 : decode b_X_stop 1 = .ok (.invokestatic 67, 3) := by decide +kernel
theorem d_X_stop_4 : decode b_X_stop 4 = .ok (.ifCond .eq 24, 3) := by decide +kernel
theorem d_X_stop_7 : decode b_X_stop 7 = .ok (.iload_n 2, 1) := by decide +kernel
theorem d_X_stop_8 : decode b_X_stop 8 = .ok (.invokestatic 71, 3) := by decide +kernel
theorem d_X_stop_11 : decode b_X_stop 11 = .ok (.ifCond .eq 17, 3) := by decide +kernel
theorem d_X_stop_14 : decode b_X_stop 14 = .ok (.iload_n 3, 1) := by decide +kernel
theorem d_X_stop_15 : decode b_X_stop 15 = .ok (.sipush 10080, 3) := by decide +kernel
theorem d_X_stop_18 : decode b_X_stop 18 = .ok (.invokestatic 74, 3) := by decide +kernel
theorem d_X_stop_21 : decode b_X_stop 21 = .ok (.ifCond .eq 7, 3) := by decide +kernel
theorem d_X_stop_24 : decode b_X_stop 24 = .ok (.iconst 1, 1) := by decide +kernel
theorem d_X_stop_25 : decode b_X_stop 25 = .ok (.goto 4, 3) := by decide +kernel
theorem d_X_stop_28 : decode b_X_stop 28 = .ok (.iconst 0, 1) := by decide +kernel
theorem d_X_stop_29 : decode b_X_stop 29 = .ok (.invokestatic 78, 3) := by decide +kernel
theorem d_X_stop_32 : decode b_X_stop 32 = .ok (.aload_n 0, 1) := by decide +kernel
theorem d_X_stop_33 : decode b_X_stop 33 = .ok (.getfield 12, 3) := by decide +kernel
theorem d_X_stop_36 : decode b_X_stop 36 = .ok (.iload_n 1, 1) := by decide +kernel
theorem d_X_stop_37 : decode b_X_stop 37 = .ok (.iload_n 3, 1) := by decide +kernel
theorem d_X_stop_38 : decode b_X_stop 38 = .ok (.invokevirtual 82, 3) := by decide +kernel
theorem d_X_stop_41 : decode b_X_stop 41 = .ok (.iconst (-1), 1) := by decide +kernel
theorem d_X_stop_42 : decode b_X_stop 42 = .ok (.if_icmp .ne 15, 3) := by decide +kernel
theorem d_X_stop_45 : decode b_X_stop 45 = .ok (.aload_n 0, 1) := by decide +kernel
theorem d_X_stop_46 : decode b_X_stop 46 = .ok (.getfield 12, 3) := by decide +kernel
theorem d_X_stop_49 : decode b_X_stop 49 = .ok (.getfield 86, 3) := by decide +kernel
theorem d_X_stop_52 : decode b_X_stop 52 = .ok (.bipush 24, 2) := by decide +kernel
theorem d_X_stop_54 : decode b_X_stop 54 = .ok (.if_icmp .ne 11, 3) := by decide +kernel
theorem d_X_stop_57 : decode b_X_stop 57 = .ok (.new 90, 3) := by decide +kernel
theorem d_X_stop_60 : decode b_X_stop 60 = .ok (.dup, 1) := by decide +kernel
theorem d_X_stop_61 : decode b_X_stop 61 = .ok (.invokespecial 92, 3) := by decide +kernel
theorem d_X_stop_64 : decode b_X_stop 64 = .ok (.athrow, 1) := by decide +kernel
theorem d_X_stop_65 : decode b_X_stop 65 = .ok (.aload_n 0, 1) := by decide +kernel
theorem d_X_stop_66 : decode b_X_stop 66 = .ok (.getfield 12, 3) := by decide +kernel
theorem d_X_stop_69 : decode b_X_stop 69 = .ok (.iload_n 1, 1) := by decide +kernel
theorem d_X_stop_70 : decode b_X_stop 70 = .ok (.iload_n 2, 1) := by decide +kernel
theorem d_X_stop_71 : decode b_X_stop 71 = .ok (.iload_n 3, 1) := by decide +kernel
theorem d_X_stop_72 : decode b_X_stop 72 = .ok (.invokevirtual 93, 3) := by decide +kernel
theorem d_X_stop_75 : decode b_X_stop 75 = .ok (.aload_n 0, 1) := by decide +kernel
theorem d_X_stop_76 : decode b_X_stop 76 = .ok (.getfield 12, 3) := by decide +kernel
theorem d_X_stop_79 : decode b_X_stop 79 = .ok (.getfield 86, 3) := by decide +kernel
theorem d_X_stop_82 : decode b_X_stop 82 = .ok (.ireturn, 1) := by decide +kernel
theorem d_X_cancel_0 : decode b_X_cancel 0 = .ok (.aload_n 0, 1) := by decide +kernel
theorem d_X_cancel_1 : decode b_X_cancel 1 = .ok (.getfield 12, 3) := by decide +kernel
theorem d_X_cancel_4 : decode b_X_cancel 4 = .ok (.iload_n 1, 1) := by decide +kernel
theorem d_X_cancel_5 : decode b_X_cancel 5 = .ok (.iload_n 2, 1) := by decide +kernel
theorem d_X_cancel_6 : decode b_X_cancel 6 = .ok (.invokevirtual 82, 3) := by decide +kernel
theorem d_X_cancel_9 : decode b_X_cancel 9 = .ok (.istore_n 3, 1) := by decide +kernel
theorem d_X_cancel_10 : decode b_X_cancel 10 = .ok (.iload_n 3, 1) := by decide +kernel
theorem d_X_cancel_11 : decode b_X_cancel 11 = .ok (.iconst (-1), 1) := by decide +kernel
theorem d_X_cancel_12 : decode b_X_cancel 12 = .ok (.if_icmp .ne 5, 3) := by decide +kernel
theorem d_X_cancel_15 : decode b_X_cancel 15 = .ok (.iconst 0, 1) := by decide +kernel
theorem d_X_cancel_16 : decode b_X_cancel 16 = .ok (.ireturn, 1) := by decide +kernel
theorem d_X_cancel_17 : decode b_X_cancel 17 = .ok (.aload_n 0, 1) := by decide +kernel
theorem d_X_cancel_18 : decode b_X_cancel 18 = .ok (.getfield 12, 3) := by decide +kernel
theorem d_X_cancel_21 : decode b_X_cancel 21 = .ok (.iload_n 3, 1) := by decide +kernel
theorem d_X_cancel_22 : decode b_X_cancel 22 = .ok (.invokevirtual 97, 3) := by decide +kernel
theorem d_X_cancel_25 : decode b_X_cancel 25 = .ok (.iconst 1, 1) := by decide +kernel
theorem d_X_cancel_26 : decode b_X_cancel 26 = .ok (.ireturn, 1) := by decide +kernel
theorem d_X_publish_0 : decode b_X_publish 0 = .ok (.aload_n 0, 1) := by decide +kernel
theorem d_X_publish_1 : decode b_X_publish 1 = .ok (.getfield 100, 3) := by decide +kernel
theorem d_X_publish_4 : decode b_X_publish 4 = .ok (.bipush 6, 2) := by decide +kernel
theorem d_X_publish_6 : decode b_X_publish 6 = .ok (.if_icmp .ne 11, 3) := by decide +kernel
theorem d_X_publish_9 : decode b_X_publish 9 = .ok (.new 90, 3) := by decide +kernel
theorem d_X_publish_12 : decode b_X_publish 12 = .ok (.dup, 1) := by decide +kernel
theorem d_X_publish_13 : decode b_X_publish 13 = .ok (.invokespecial 92, 3) := by decide +kernel
theorem d_X_publish_16 : decode b_X_publish 16 = .ok (.athrow, 1) := by decide +kernel
theorem d_X_publish_17 : decode b_X_publish 17 = .ok (.aload_n 0, 1) := by decide +kernel
theorem d_X_publish_18 : decode b_X_publish 18 = .ok (.dup, 1) := by decide +kernel
theorem d_X_publish_19 : decode b_X_publish 19 = .ok (.getfield 100, 3) := by decide +kernel
theorem d_X_publish_22 : decode b_X_publish 22 = .ok (.iconst 1, 1) := by decide +kernel
theorem d_X_publish_23 : decode b_X_publish 23 = .ok (.iadd, 1) := by decide +kernel
theorem d_X_publish_24 : decode b_X_publish 24 = .ok (.putfield 100, 3) := by decide +kernel
theorem d_X_publish_27 : decode b_X_publish 27 = .ok (.aload_n 0, 1) := by decide +kernel
theorem d_X_publish_28 : decode b_X_publish 28 = .ok (.getfield 16, 3) := by decide +kernel
theorem d_X_publish_31 : decode b_X_publish 31 = .ok (.aload_n 0, 1) := by decide +kernel
theorem d_X_publish_32 : decode b_X_publish 32 = .ok (.getfield 100, 3) := by decide +kernel
theorem d_X_publish_35 : decode b_X_publish 35 = .ok (.aaload, 1) := by decide +kernel
theorem d_X_publish_36 : decode b_X_publish 36 = .ok (.aload_n 0, 1) := by decide +kernel
theorem d_X_publish_37 : decode b_X_publish 37 = .ok (.getfield 12, 3) := by decide +kernel
theorem d_X_publish_40 : decode b_X_publish 40 = .ok (.invokevirtual 103, 3) := by decide +kernel
theorem d_X_publish_43 : decode b_X_publish 43 = .ok (.aload_n 0, 1) := by decide +kernel
theorem d_X_publish_44 : decode b_X_publish 44 = .ok (.getfield 22, 3) := by decide +kernel
theorem d_X_publish_47 : decode b_X_publish 47 = .ok (.iconst 0, 1) := by decide +kernel
theorem d_X_publish_48 : decode b_X_publish 48 = .ok (.aaload, 1) := by decide +kernel
theorem d_X_publish_49 : decode b_X_publish 49 = .ok (.aload_n 0, 1) := by decide +kernel
theorem d_X_publish_50 : decode b_X_publish 50 = .ok (.getfield 100, 3) := by decide +kernel
theorem d_X_publish_53 : decode b_X_publish 53 = .ok (.putfield 107, 3) := by decide +kernel
theorem d_X_publish_56 : decode b_X_publish 56 = .ok (.aload_n 0, 1) := by decide +kernel
theorem d_X_publish_57 : decode b_X_publish 57 = .ok (.getfield 100, 3) := by decide +kernel
theorem d_X_publish_60 : decode b_X_publish 60 = .ok (.ireturn, 1) := by decide +kernel
theorem d_X_arrival_0 : decode b_X_arrival 0 = .ok (.aload_n 0, 1) := by decide +kernel
theorem d_X_arrival_1 : decode b_X_arrival 1 = .ok (.getfield 50, 3) := by decide +kernel
theorem d_X_arrival_4 : decode b_X_arrival 4 = .ok (.aload_n 0, 1) := by decide +kernel
theorem d_X_arrival_5 : decode b_X_arrival 5 = .ok (.getfield 16, 3) := by decide +kernel
theorem d_X_arrival_8 : decode b_X_arrival 8 = .ok (.iload_n 1, 1) := by decide +kernel
theorem d_X_arrival_9 : decode b_X_arrival 9 = .ok (.aaload, 1) := by decide +kernel
theorem d_X_arrival_10 : decode b_X_arrival 10 = .ok (.iload_n 2, 1) := by decide +kernel
theorem d_X_arrival_11 : decode b_X_arrival 11 = .ok (.iload 4, 2) := by decide +kernel
theorem d_X_arrival_13 : decode b_X_arrival 13 = .ok (.invokevirtual 115, 3) := by decide +kernel
theorem d_X_arrival_16 : decode b_X_arrival 16 = .ok (.aload_n 0, 1) := by decide +kernel
theorem d_X_arrival_17 : decode b_X_arrival 17 = .ok (.getfield 50, 3) := by decide +kernel
theorem d_X_arrival_20 : decode b_X_arrival 20 = .ok (.getfield 119, 3) := by decide +kernel
theorem d_X_arrival_23 : decode b_X_arrival 23 = .ok (.iload_n 3, 1) := by decide +kernel
theorem d_X_arrival_24 : decode b_X_arrival 24 = .ok (.iaload, 1) := by decide +kernel
theorem d_X_arrival_25 : decode b_X_arrival 25 = .ok (.istore 5, 2) := by decide +kernel
theorem d_X_arrival_27 : decode b_X_arrival 27 = .ok (.iload 5, 2) := by decide +kernel
theorem d_X_arrival_29 : decode b_X_arrival 29 = .ok (.ldc 123, 2) := by decide +kernel
theorem d_X_arrival_31 : decode b_X_arrival 31 = .ok (.if_icmp .ne 7, 3) := by decide +kernel
theorem d_X_arrival_34 : decode b_X_arrival 34 = .ok (.iconst (-1), 1) := by decide +kernel
theorem d_X_arrival_35 : decode b_X_arrival 35 = .ok (.goto 5, 3) := by decide +kernel
theorem d_X_arrival_38 : decode b_X_arrival 38 = .ok (.iload 5, 2) := by decide +kernel
theorem d_X_arrival_40 : decode b_X_arrival 40 = .ok (.ireturn, 1) := by decide +kernel
theorem d_X_best_0 : decode b_X_best 0 = .ok (.iload_n 1, 1) := by decide +kernel
theorem d_X_best_1 : decode b_X_best 1 = .ok (.invokestatic 71, 3) := by decide +kernel
theorem d_X_best_4 : decode b_X_best 4 = .ok (.ifCond .eq 24, 3) := by decide +kernel
theorem d_X_best_7 : decode b_X_best 7 = .ok (.iload_n 2, 1) := by decide +kernel
theorem d_X_best_8 : decode b_X_best 8 = .ok (.invokestatic 71, 3) := by decide +kernel
theorem d_X_best_11 : decode b_X_best 11 = .ok (.ifCond .eq 17, 3) := by decide +kernel
theorem d_X_best_14 : decode b_X_best 14 = .ok (.iload_n 3, 1) := by decide +kernel
theorem d_X_best_15 : decode b_X_best 15 = .ok (.ifCond .lt 13, 3) := by decide +kernel
theorem d_X_best_18 : decode b_X_best 18 = .ok (.iload_n 3, 1) := by decide +kernel
theorem d_X_best_19 : decode b_X_best 19 = .ok (.ldc 110, 2) := by decide +kernel
theorem d_X_best_21 : decode b_X_best 21 = .ok (.if_icmp .gt 7, 3) := by decide +kernel
theorem d_X_best_24 : decode b_X_best 24 = .ok (.iconst 1, 1) := by decide +kernel
theorem d_X_best_25 : decode b_X_best 25 = .ok (.goto 4, 3) := by decide +kernel
theorem d_X_best_28 : decode b_X_best 28 = .ok (.iconst 0, 1) := by decide +kernel
theorem d_X_best_29 : decode b_X_best 29 = .ok (.invokestatic 78, 3) := by decide +kernel
theorem d_X_best_32 : decode b_X_best 32 = .ok (.aload_n 0, 1) := by decide +kernel
theorem d_X_best_33 : decode b_X_best 33 = .ok (.aload_n 0, 1) := by decide +kernel
theorem d_X_best_34 : decode b_X_best 34 = .ok (.getfield 100, 3) := by decide +kernel
theorem d_X_best_37 : decode b_X_best 37 = .ok (.iload_n 1, 1) := by decide +kernel
theorem d_X_best_38 : decode b_X_best 38 = .ok (.iload_n 2, 1) := by decide +kernel
theorem d_X_best_39 : decode b_X_best 39 = .ok (.iload_n 3, 1) := by decide +kernel
theorem d_X_best_40 : decode b_X_best 40 = .ok (.invokevirtual 111, 3) := by decide +kernel
theorem d_X_best_43 : decode b_X_best 43 = .ok (.ireturn, 1) := by decide +kernel
theorem d_X_isBox_0 : decode b_X_isBox 0 = .ok (.iload_n 0, 1) := by decide +kernel
theorem d_X_isBox_1 : decode b_X_isBox 1 = .ok (.invokestatic 71, 3) := by decide +kernel
theorem d_X_isBox_4 : decode b_X_isBox 4 = .ok (.ifCond .eq 15, 3) := by decide +kernel
theorem d_X_isBox_7 : decode b_X_isBox 7 = .ok (.iload_n 1, 1) := by decide +kernel
theorem d_X_isBox_8 : decode b_X_isBox 8 = .ok (.iconst 3, 1) := by decide +kernel
theorem d_X_isBox_9 : decode b_X_isBox 9 = .ok (.invokestatic 74, 3) := by decide +kernel
theorem d_X_isBox_12 : decode b_X_isBox 12 = .ok (.ifCond .eq 7, 3) := by decide +kernel
theorem d_X_isBox_15 : decode b_X_isBox 15 = .ok (.iconst 1, 1) := by decide +kernel
theorem d_X_isBox_16 : decode b_X_isBox 16 = .ok (.goto 4, 3) := by decide +kernel
theorem d_X_isBox_19 : decode b_X_isBox 19 = .ok (.iconst 0, 1) := by decide +kernel
theorem d_X_isBox_20 : decode b_X_isBox 20 = .ok (.ireturn, 1) := by decide +kernel
theorem d_X_piecesIn_0 : decode b_X_piecesIn 0 = .ok (.iload_n 0, 1) := by decide +kernel
theorem d_X_piecesIn_1 : decode b_X_piecesIn 1 = .ok (.bipush 8, 2) := by decide +kernel
theorem d_X_piecesIn_3 : decode b_X_piecesIn 3 = .ok (.iadd, 1) := by decide +kernel
theorem d_X_piecesIn_4 : decode b_X_piecesIn 4 = .ok (.iconst 1, 1) := by decide +kernel
theorem d_X_piecesIn_5 : decode b_X_piecesIn 5 = .ok (.isub, 1) := by decide +kernel
theorem d_X_piecesIn_6 : decode b_X_piecesIn 6 = .ok (.bipush 8, 2) := by decide +kernel
theorem d_X_piecesIn_8 : decode b_X_piecesIn 8 = .ok (.idiv, 1) := by decide +kernel
theorem d_X_piecesIn_9 : decode b_X_piecesIn 9 = .ok (.ireturn, 1) := by decide +kernel
theorem d_X_byteAt_0 : decode b_X_byteAt 0 = .ok (.lload_n 0, 1) := by decide +kernel
theorem d_X_byteAt_1 : decode b_X_byteAt 1 = .ok (.bipush 8, 2) := by decide +kernel
theorem d_X_byteAt_3 : decode b_X_byteAt 3 = .ok (.iload_n 2, 1) := by decide +kernel
theorem d_X_byteAt_4 : decode b_X_byteAt 4 = .ok (.imul, 1) := by decide +kernel
theorem d_X_byteAt_5 : decode b_X_byteAt 5 = .ok (.lushr, 1) := by decide +kernel
theorem d_X_byteAt_6 : decode b_X_byteAt 6 = .ok (.l2i, 1) := by decide +kernel
theorem d_X_byteAt_7 : decode b_X_byteAt 7 = .ok (.sipush 255, 3) := by decide +kernel
theorem d_X_byteAt_10 : decode b_X_byteAt 10 = .ok (.iand, 1) := by decide +kernel
theorem d_X_byteAt_11 : decode b_X_byteAt 11 = .ok (.ireturn, 1) := by decide +kernel
theorem d_X_sumOf_0 : decode b_X_sumOf 0 = .ok (.iconst 0, 1) := by decide +kernel
theorem d_X_sumOf_1 : decode b_X_sumOf 1 = .ok (.istore_n 2, 1) := by decide +kernel
theorem d_X_sumOf_2 : decode b_X_sumOf 2 = .ok (.iconst 0, 1) := by decide +kernel
theorem d_X_sumOf_3 : decode b_X_sumOf 3 = .ok (.istore_n 3, 1) := by decide +kernel
theorem d_X_sumOf_4 : decode b_X_sumOf 4 = .ok (.iload_n 3, 1) := by decide +kernel
theorem d_X_sumOf_5 : decode b_X_sumOf 5 = .ok (.iload_n 1, 1) := by decide +kernel
theorem d_X_sumOf_6 : decode b_X_sumOf 6 = .ok (.if_icmp .ge 32, 3) := by decide +kernel
theorem d_X_sumOf_9 : decode b_X_sumOf 9 = .ok (.iload_n 2, 1) := by decide +kernel
theorem d_X_sumOf_10 : decode b_X_sumOf 10 = .ok (.iconst 5, 1) := by decide +kernel
theorem d_X_sumOf_11 : decode b_X_sumOf 11 = .ok (.ishl, 1) := by decide +kernel
theorem d_X_sumOf_12 : decode b_X_sumOf 12 = .ok (.iload_n 2, 1) := by decide +kernel
theorem d_X_sumOf_13 : decode b_X_sumOf 13 = .ok (.bipush 27, 2) := by decide +kernel
theorem d_X_sumOf_15 : decode b_X_sumOf 15 = .ok (.iushr, 1) := by decide +kernel
theorem d_X_sumOf_16 : decode b_X_sumOf 16 = .ok (.ior, 1) := by decide +kernel
theorem d_X_sumOf_17 : decode b_X_sumOf 17 = .ok (.aload_n 0, 1) := by decide +kernel
theorem d_X_sumOf_18 : decode b_X_sumOf 18 = .ok (.iload_n 3, 1) := by decide +kernel
theorem d_X_sumOf_19 : decode b_X_sumOf 19 = .ok (.bipush 8, 2) := by decide +kernel
theorem d_X_sumOf_21 : decode b_X_sumOf 21 = .ok (.idiv, 1) := by decide +kernel
theorem d_X_sumOf_22 : decode b_X_sumOf 22 = .ok (.laload, 1) := by decide +kernel
theorem d_X_sumOf_23 : decode b_X_sumOf 23 = .ok (.iload_n 3, 1) := by decide +kernel
theorem d_X_sumOf_24 : decode b_X_sumOf 24 = .ok (.bipush 8, 2) := by decide +kernel
theorem d_X_sumOf_26 : decode b_X_sumOf 26 = .ok (.irem, 1) := by decide +kernel
theorem d_X_sumOf_27 : decode b_X_sumOf 27 = .ok (.invokestatic 158, 3) := by decide +kernel
theorem d_X_sumOf_30 : decode b_X_sumOf 30 = .ok (.ixor, 1) := by decide +kernel
theorem d_X_sumOf_31 : decode b_X_sumOf 31 = .ok (.istore_n 2, 1) := by decide +kernel
theorem d_X_sumOf_32 : decode b_X_sumOf 32 = .ok (.iinc 3 1, 3) := by decide +kernel
theorem d_X_sumOf_35 : decode b_X_sumOf 35 = .ok (.goto (-31), 3) := by decide +kernel
theorem d_X_sumOf_38 : decode b_X_sumOf 38 = .ok (.iload_n 2, 1) := by decide +kernel
theorem d_X_sumOf_39 : decode b_X_sumOf 39 = .ok (.ireturn, 1) := by decide +kernel
theorem d_X_lookAt_0 : decode b_X_lookAt 0 = .ok (.aload_n 0, 1) := by decide +kernel
theorem d_X_lookAt_1 : decode b_X_lookAt 1 = .ok (.getfield 38, 3) := by decide +kernel
theorem d_X_lookAt_4 : decode b_X_lookAt 4 = .ok (.iload_n 1, 1) := by decide +kernel
theorem d_X_lookAt_5 : decode b_X_lookAt 5 = .ok (.aaload, 1) := by decide +kernel
theorem d_X_lookAt_6 : decode b_X_lookAt 6 = .ok (.astore_n 2, 1) := by decide +kernel
theorem d_X_lookAt_7 : decode b_X_lookAt 7 = .ok (.aload_n 0, 1) := by decide +kernel
theorem d_X_lookAt_8 : decode b_X_lookAt 8 = .ok (.getfield 22, 3) := by decide +kernel
theorem d_X_lookAt_11 : decode b_X_lookAt 11 = .ok (.aload_n 2, 1) := by decide +kernel
theorem d_X_lookAt_12 : decode b_X_lookAt 12 = .ok (.getfield 185, 3) := by decide +kernel
theorem d_X_lookAt_15 : decode b_X_lookAt 15 = .ok (.aaload, 1) := by decide +kernel
theorem d_X_lookAt_16 : decode b_X_lookAt 16 = .ok (.astore_n 3, 1) := by decide +kernel
theorem d_X_lookAt_17 : decode b_X_lookAt 17 = .ok (.aload_n 3, 1) := by decide +kernel
theorem d_X_lookAt_18 : decode b_X_lookAt 18 = .ok (.getfield 227, 3) := by decide +kernel
theorem d_X_lookAt_21 : decode b_X_lookAt 21 = .ok (.iload_n 1, 1) := by decide +kernel
theorem d_X_lookAt_22 : decode b_X_lookAt 22 = .ok (.iaload, 1) := by decide +kernel
theorem d_X_lookAt_23 : decode b_X_lookAt 23 = .ok (.ifCond .ne 18, 3) := by decide +kernel
theorem d_X_lookAt_26 : decode b_X_lookAt 26 = .ok (.aload_n 3, 1) := by decide +kernel
theorem d_X_lookAt_27 : decode b_X_lookAt 27 = .ok (.iload_n 1, 1) := by decide +kernel
theorem d_X_lookAt_28 : decode b_X_lookAt 28 = .ok (.invokevirtual 234, 3) := by decide +kernel
theorem d_X_lookAt_31 : decode b_X_lookAt 31 = .ok (.aload_n 2, 1) := by decide +kernel
theorem d_X_lookAt_32 : decode b_X_lookAt 32 = .ok (.getfield 152, 3) := by decide +kernel
theorem d_X_lookAt_35 : decode b_X_lookAt 35 = .ok (.invokestatic 178, 3) := by decide +kernel
theorem d_X_lookAt_38 : decode b_X_lookAt 38 = .ok (.if_icmp .ge 4, 3) := by decide +kernel
theorem d_X_lookAt_41 : decode b_X_lookAt 41 = .ok (.return_, 1) := by decide +kernel
theorem d_X_lookAt_42 : decode b_X_lookAt 42 = .ok (.aload_n 3, 1) := by decide +kernel
theorem d_X_lookAt_43 : decode b_X_lookAt 43 = .ok (.getfield 253, 3) := by decide +kernel
theorem d_X_lookAt_46 : decode b_X_lookAt 46 = .ok (.iload_n 1, 1) := by decide +kernel
theorem d_X_lookAt_47 : decode b_X_lookAt 47 = .ok (.iconst 4, 1) := by decide +kernel
theorem d_X_lookAt_48 : decode b_X_lookAt 48 = .ok (.imul, 1) := by decide +kernel
theorem d_X_lookAt_49 : decode b_X_lookAt 49 = .ok (.aload_n 2, 1) := by decide +kernel
theorem d_X_lookAt_50 : decode b_X_lookAt 50 = .ok (.getfield 155, 3) := by decide +kernel
theorem d_X_lookAt_53 : decode b_X_lookAt 53 = .ok (.iconst 0, 1) := by decide +kernel
theorem d_X_lookAt_54 : decode b_X_lookAt 54 = .ok (.iconst 4, 1) := by decide +kernel
theorem d_X_lookAt_55 : decode b_X_lookAt 55 = .ok (.invokestatic 255, 3) := by decide +kernel
theorem d_X_lookAt_58 : decode b_X_lookAt 58 = .ok (.aload_n 2, 1) := by decide +kernel
theorem d_X_lookAt_59 : decode b_X_lookAt 59 = .ok (.getfield 155, 3) := by decide +kernel
theorem d_X_lookAt_62 : decode b_X_lookAt 62 = .ok (.aload_n 2, 1) := by decide +kernel
theorem d_X_lookAt_63 : decode b_X_lookAt 63 = .ok (.getfield 152, 3) := by decide +kernel
theorem d_X_lookAt_66 : decode b_X_lookAt 66 = .ok (.invokestatic 203, 3) := by decide +kernel
theorem d_X_lookAt_69 : decode b_X_lookAt 69 = .ok (.aload_n 2, 1) := by decide +kernel
theorem d_X_lookAt_70 : decode b_X_lookAt 70 = .ok (.getfield 207, 3) := by decide +kernel
theorem d_X_lookAt_73 : decode b_X_lookAt 73 = .ok (.if_icmp .eq 12, 3) := by decide +kernel
theorem d_X_lookAt_76 : decode b_X_lookAt 76 = .ok (.aload_n 3, 1) := by decide +kernel
theorem d_X_lookAt_77 : decode b_X_lookAt 77 = .ok (.iload_n 1, 1) := by decide +kernel
theorem d_X_lookAt_78 : decode b_X_lookAt 78 = .ok (.iconst 2, 1) := by decide +kernel
theorem d_X_lookAt_79 : decode b_X_lookAt 79 = .ok (.invokevirtual 261, 3) := by decide +kernel
theorem d_X_lookAt_82 : decode b_X_lookAt 82 = .ok (.goto 33, 3) := by decide +kernel
theorem d_X_lookAt_85 : decode b_X_lookAt 85 = .ok (.aload_n 0, 1) := by decide +kernel
theorem d_X_lookAt_86 : decode b_X_lookAt 86 = .ok (.getfield 31, 3) := by decide +kernel
theorem d_X_lookAt_89 : decode b_X_lookAt 89 = .ok (.aload_n 2, 1) := by decide +kernel
theorem d_X_lookAt_90 : decode b_X_lookAt 90 = .ok (.getfield 185, 3) := by decide +kernel
theorem d_X_lookAt_93 : decode b_X_lookAt 93 = .ok (.aaload, 1) := by decide +kernel
theorem d_X_lookAt_94 : decode b_X_lookAt 94 = .ok (.aload_n 2, 1) := by decide +kernel
theorem d_X_lookAt_95 : decode b_X_lookAt 95 = .ok (.getfield 188, 3) := by decide +kernel
theorem d_X_lookAt_98 : decode b_X_lookAt 98 = .ok (.iload_n 1, 1) := by decide +kernel
theorem d_X_lookAt_99 : decode b_X_lookAt 99 = .ok (.aload_n 2, 1) := by decide +kernel
theorem d_X_lookAt_100 : decode b_X_lookAt 100 = .ok (.getfield 152, 3) := by decide +kernel
theorem d_X_lookAt_103 : decode b_X_lookAt 103 = .ok (.invokevirtual 264, 3) := by decide +kernel
theorem d_X_lookAt_106 : decode b_X_lookAt 106 = .ok (.ifCond .eq 9, 3) := by decide +kernel
theorem d_X_lookAt_109 : decode b_X_lookAt 109 = .ok (.aload_n 3, 1) := by decide +kernel
theorem d_X_lookAt_110 : decode b_X_lookAt 110 = .ok (.iload_n 1, 1) := by decide +kernel
theorem d_X_lookAt_111 : decode b_X_lookAt 111 = .ok (.iconst 1, 1) := by decide +kernel
theorem d_X_lookAt_112 : decode b_X_lookAt 112 = .ok (.invokevirtual 261, 3) := by decide +kernel
theorem d_X_lookAt_115 : decode b_X_lookAt 115 = .ok (.return_, 1) := by decide +kernel
theorem d_X_lookAtAllOf_0 : decode b_X_lookAtAllOf 0 = .ok (.iconst 0, 1) := by decide +kernel
theorem d_X_lookAtAllOf_1 : decode b_X_lookAtAllOf 1 = .ok (.istore_n 2, 1) := by decide +kernel
theorem d_X_lookAtAllOf_2 : decode b_X_lookAtAllOf 2 = .ok (.iload_n 2, 1) := by decide +kernel
theorem d_X_lookAtAllOf_3 : decode b_X_lookAtAllOf 3 = .ok (.aload_n 0, 1) := by decide +kernel
theorem d_X_lookAtAllOf_4 : decode b_X_lookAtAllOf 4 = .ok (.getfield 171, 3) := by decide +kernel
theorem d_X_lookAtAllOf_7 : decode b_X_lookAtAllOf 7 = .ok (.if_icmp .ge 27, 3) := by decide +kernel
theorem d_X_lookAtAllOf_10 : decode b_X_lookAtAllOf 10 = .ok (.aload_n 0, 1) := by decide +kernel
theorem d_X_lookAtAllOf_11 : decode b_X_lookAtAllOf 11 = .ok (.getfield 38, 3) := by decide +kernel
theorem d_X_lookAtAllOf_14 : decode b_X_lookAtAllOf 14 = .ok (.iload_n 2, 1) := by decide +kernel
theorem d_X_lookAtAllOf_15 : decode b_X_lookAtAllOf 15 = .ok (.aaload, 1) := by decide +kernel
theorem d_X_lookAtAllOf_16 : decode b_X_lookAtAllOf 16 = .ok (.getfield 185, 3) := by decide +kernel
theorem d_X_lookAtAllOf_19 : decode b_X_lookAtAllOf 19 = .ok (.iload_n 1, 1) := by decide +kernel
theorem d_X_lookAtAllOf_20 : decode b_X_lookAtAllOf 20 = .ok (.if_icmp .ne 8, 3) := by decide +kernel
theorem d_X_lookAtAllOf_23 : decode b_X_lookAtAllOf 23 = .ok (.aload_n 0, 1) := by decide +kernel
theorem d_X_lookAtAllOf_24 : decode b_X_lookAtAllOf 24 = .ok (.iload_n 2, 1) := by decide +kernel
theorem d_X_lookAtAllOf_25 : decode b_X_lookAtAllOf 25 = .ok (.invokevirtual 214, 3) := by decide +kernel
theorem d_X_lookAtAllOf_28 : decode b_X_lookAtAllOf 28 = .ok (.iinc 2 1, 3) := by decide +kernel
theorem d_X_lookAtAllOf_31 : decode b_X_lookAtAllOf 31 = .ok (.goto (-29), 3) := by decide +kernel
theorem d_X_lookAtAllOf_34 : decode b_X_lookAtAllOf 34 = .ok (.return_, 1) := by decide +kernel
theorem d_X_household_0 : decode b_X_household 0 = .ok (.iload_n 1, 1) := by decide +kernel
theorem d_X_household_1 : decode b_X_household 1 = .ok (.iload_n 2, 1) := by decide +kernel
theorem d_X_household_2 : decode b_X_household 2 = .ok (.invokestatic 124, 3) := by decide +kernel
theorem d_X_household_5 : decode b_X_household 5 = .ok (.ifCond .eq 17, 3) := by decide +kernel
theorem d_X_household_8 : decode b_X_household 8 = .ok (.iload_n 3, 1) := by decide +kernel
theorem d_X_household_9 : decode b_X_household 9 = .ok (.sipush 201, 3) := by decide +kernel
theorem d_X_household_12 : decode b_X_household 12 = .ok (.invokestatic 74, 3) := by decide +kernel
theorem d_X_household_15 : decode b_X_household 15 = .ok (.ifCond .eq 7, 3) := by decide +kernel
theorem d_X_household_18 : decode b_X_household 18 = .ok (.iconst 1, 1) := by decide +kernel
theorem d_X_household_19 : decode b_X_household 19 = .ok (.goto 4, 3) := by decide +kernel
theorem d_X_household_22 : decode b_X_household 22 = .ok (.iconst 0, 1) := by decide +kernel
theorem d_X_household_23 : decode b_X_household 23 = .ok (.invokestatic 78, 3) := by decide +kernel
theorem d_X_household_26 : decode b_X_household 26 = .ok (.aload_n 0, 1) := by decide +kernel
theorem d_X_household_27 : decode b_X_household 27 = .ok (.getfield 31, 3) := by decide +kernel
theorem d_X_household_30 : decode b_X_household 30 = .ok (.iload_n 1, 1) := by decide +kernel
theorem d_X_household_31 : decode b_X_household 31 = .ok (.aaload, 1) := by decide +kernel
theorem d_X_household_32 : decode b_X_household 32 = .ok (.getfield 127, 3) := by decide +kernel
theorem d_X_household_35 : decode b_X_household 35 = .ok (.iload_n 2, 1) := by decide +kernel
theorem d_X_household_36 : decode b_X_household 36 = .ok (.aaload, 1) := by decide +kernel
theorem d_X_household_37 : decode b_X_household 37 = .ok (.iload_n 3, 1) := by decide +kernel
theorem d_X_household_38 : decode b_X_household 38 = .ok (.putfield 131, 3) := by decide +kernel
theorem d_X_household_41 : decode b_X_household 41 = .ok (.aload_n 0, 1) := by decide +kernel
theorem d_X_household_42 : decode b_X_household 42 = .ok (.iload_n 1, 1) := by decide +kernel
theorem d_X_household_43 : decode b_X_household 43 = .ok (.invokevirtual 136, 3) := by decide +kernel
theorem d_X_household_46 : decode b_X_household 46 = .ok (.return_, 1) := by decide +kernel
theorem d_X_group_0 : decode b_X_group 0 = .ok (.iload_n 1, 1) := by decide +kernel
theorem d_X_group_1 : decode b_X_group 1 = .ok (.iload_n 3, 1) := by decide +kernel
theorem d_X_group_2 : decode b_X_group 2 = .ok (.invokestatic 124, 3) := by decide +kernel
theorem d_X_group_5 : decode b_X_group 5 = .ok (.ifCond .eq 15, 3) := by decide +kernel
theorem d_X_group_8 : decode b_X_group 8 = .ok (.iload_n 2, 1) := by decide +kernel
theorem d_X_group_9 : decode b_X_group 9 = .ok (.iconst 2, 1) := by decide +kernel
theorem d_X_group_10 : decode b_X_group 10 = .ok (.invokestatic 74, 3) := by decide +kernel
theorem d_X_group_13 : decode b_X_group 13 = .ok (.ifCond .eq 7, 3) := by decide +kernel
theorem d_X_group_16 : decode b_X_group 16 = .ok (.iconst 1, 1) := by decide +kernel
theorem d_X_group_17 : decode b_X_group 17 = .ok (.goto 4, 3) := by decide +kernel
theorem d_X_group_20 : decode b_X_group 20 = .ok (.iconst 0, 1) := by decide +kernel
theorem d_X_group_21 : decode b_X_group 21 = .ok (.invokestatic 78, 3) := by decide +kernel
theorem d_X_group_24 : decode b_X_group 24 = .ok (.aload_n 0, 1) := by decide +kernel
theorem d_X_group_25 : decode b_X_group 25 = .ok (.getfield 31, 3) := by decide +kernel
theorem d_X_group_28 : decode b_X_group 28 = .ok (.iload_n 1, 1) := by decide +kernel
theorem d_X_group_29 : decode b_X_group 29 = .ok (.aaload, 1) := by decide +kernel
theorem d_X_group_30 : decode b_X_group 30 = .ok (.iload_n 2, 1) := by decide +kernel
theorem d_X_group_31 : decode b_X_group 31 = .ok (.iload_n 3, 1) := by decide +kernel
theorem d_X_group_32 : decode b_X_group 32 = .ok (.invokevirtual 139, 3) := by decide +kernel
theorem d_X_group_35 : decode b_X_group 35 = .ok (.istore 4, 2) := by decide +kernel
theorem d_X_group_37 : decode b_X_group 37 = .ok (.iload 4, 2) := by decide +kernel
theorem d_X_group_39 : decode b_X_group 39 = .ok (.ifCond .eq 8, 3) := by decide +kernel
theorem d_X_group_42 : decode b_X_group 42 = .ok (.aload_n 0, 1) := by decide +kernel
theorem d_X_group_43 : decode b_X_group 43 = .ok (.iload_n 1, 1) := by decide +kernel
theorem d_X_group_44 : decode b_X_group 44 = .ok (.invokevirtual 136, 3) := by decide +kernel
theorem d_X_group_47 : decode b_X_group 47 = .ok (.iload 4, 2) := by decide +kernel
theorem d_X_group_49 : decode b_X_group 49 = .ok (.ireturn, 1) := by decide +kernel
theorem d_X_box_0 : decode b_X_box 0 = .ok (.iload_n 1, 1) := by decide +kernel
theorem d_X_box_1 : decode b_X_box 1 = .ok (.iload_n 2, 1) := by decide +kernel
theorem d_X_box_2 : decode b_X_box 2 = .ok (.invokestatic 124, 3) := by decide +kernel
theorem d_X_box_5 : decode b_X_box 5 = .ok (.ifCond .eq 15, 3) := by decide +kernel
theorem d_X_box_8 : decode b_X_box 8 = .ok (.iload_n 3, 1) := by decide +kernel
theorem d_X_box_9 : decode b_X_box 9 = .ok (.iconst 3, 1) := by decide +kernel
theorem d_X_box_10 : decode b_X_box 10 = .ok (.invokestatic 74, 3) := by decide +kernel
theorem d_X_box_13 : decode b_X_box 13 = .ok (.ifCond .eq 7, 3) := by decide +kernel
theorem d_X_box_16 : decode b_X_box 16 = .ok (.iconst 1, 1) := by decide +kernel
theorem d_X_box_17 : decode b_X_box 17 = .ok (.goto 4, 3) := by decide +kernel
theorem d_X_box_20 : decode b_X_box 20 = .ok (.iconst 0, 1) := by decide +kernel
theorem d_X_box_21 : decode b_X_box 21 = .ok (.invokestatic 78, 3) := by decide +kernel
theorem d_X_box_24 : decode b_X_box 24 = .ok (.aload_n 0, 1) := by decide +kernel
theorem d_X_box_25 : decode b_X_box 25 = .ok (.getfield 31, 3) := by decide +kernel
theorem d_X_box_28 : decode b_X_box 28 = .ok (.iload_n 1, 1) := by decide +kernel
theorem d_X_box_29 : decode b_X_box 29 = .ok (.aaload, 1) := by decide +kernel
theorem d_X_box_30 : decode b_X_box 30 = .ok (.getfield 127, 3) := by decide +kernel
theorem d_X_box_33 : decode b_X_box 33 = .ok (.iload_n 2, 1) := by decide +kernel
theorem d_X_box_34 : decode b_X_box 34 = .ok (.aaload, 1) := by decide +kernel
theorem d_X_box_35 : decode b_X_box 35 = .ok (.astore 4, 2) := by decide +kernel
theorem d_X_box_37 : decode b_X_box 37 = .ok (.iload_n 3, 1) := by decide +kernel
theorem d_X_box_38 : decode b_X_box 38 = .ok (.ifCond .ne 9, 3) := by decide +kernel
theorem d_X_box_41 : decode b_X_box 41 = .ok (.aload 4, 2) := by decide +kernel
theorem d_X_box_43 : decode b_X_box 43 = .ok (.getfield 142, 3) := by decide +kernel
theorem d_X_box_46 : decode b_X_box 46 = .ok (.ireturn, 1) := by decide +kernel
theorem d_X_box_47 : decode b_X_box 47 = .ok (.iload_n 3, 1) := by decide +kernel
theorem d_X_box_48 : decode b_X_box 48 = .ok (.iconst 1, 1) := by decide +kernel
theorem d_X_box_49 : decode b_X_box 49 = .ok (.if_icmp .ne 11, 3) := by decide +kernel
theorem d_X_box_52 : decode b_X_box 52 = .ok (.aload 4, 2) := by decide +kernel
theorem d_X_box_54 : decode b_X_box 54 = .ok (.getfield 143, 3) := by decide +kernel
theorem d_X_box_57 : decode b_X_box 57 = .ok (.goto 8, 3) := by decide +kernel
theorem d_X_box_60 : decode b_X_box 60 = .ok (.aload 4, 2) := by decide +kernel
theorem d_X_box_62 : decode b_X_box 62 = .ok (.getfield 131, 3) := by decide +kernel
theorem d_X_box_65 : decode b_X_box 65 = .ok (.ireturn, 1) := by decide +kernel
theorem d_X_demandIndex_0 : decode b_X_demandIndex 0 = .ok (.iload_n 0, 1) := by decide +kernel
theorem d_X_demandIndex_1 : decode b_X_demandIndex 1 = .ok (.iload_n 1, 1) := by decide +kernel
theorem d_X_demandIndex_2 : decode b_X_demandIndex 2 = .ok (.invokestatic 74, 3) := by decide +kernel
theorem d_X_demandIndex_5 : decode b_X_demandIndex 5 = .ok (.ifCond .ne 11, 3) := by decide +kernel
theorem d_X_demandIndex_8 : decode b_X_demandIndex 8 = .ok (.new 350, 3) := by decide +kernel
theorem d_X_demandIndex_11 : decode b_X_demandIndex 11 = .ok (.dup, 1) := by decide +kernel
theorem d_X_demandIndex_12 : decode b_X_demandIndex 12 = .ok (.invokespecial 352, 3) := by decide +kernel
theorem d_X_demandIndex_15 : decode b_X_demandIndex 15 = .ok (.athrow, 1) := by decide +kernel
theorem d_X_demandIndex_16 : decode b_X_demandIndex 16 = .ok (.return_, 1) := by decide +kernel
theorem d_X_read_0 : decode b_X_read 0 = .ok (.iload_n 1, 1) := by decide +kernel
theorem d_X_read_1 : decode b_X_read 1 = .ok (.iload_n 2, 1) := by decide +kernel
theorem d_X_read_2 : decode b_X_read 2 = .ok (.invokestatic 124, 3) := by decide +kernel
theorem d_X_read_5 : decode b_X_read 5 = .ok (.invokestatic 78, 3) := by decide +kernel
theorem d_X_read_8 : decode b_X_read 8 = .ok (.aload_n 0, 1) := by decide +kernel
theorem d_X_read_9 : decode b_X_read 9 = .ok (.getfield 31, 3) := by decide +kernel
theorem d_X_read_12 : decode b_X_read 12 = .ok (.iload_n 1, 1) := by decide +kernel
theorem d_X_read_13 : decode b_X_read 13 = .ok (.aaload, 1) := by decide +kernel
theorem d_X_read_14 : decode b_X_read 14 = .ok (.getfield 127, 3) := by decide +kernel
theorem d_X_read_17 : decode b_X_read 17 = .ok (.iload_n 2, 1) := by decide +kernel
theorem d_X_read_18 : decode b_X_read 18 = .ok (.aaload, 1) := by decide +kernel
theorem d_X_read_19 : decode b_X_read 19 = .ok (.astore 5, 2) := by decide +kernel
theorem d_X_read_21 : decode b_X_read 21 = .ok (.iload_n 3, 1) := by decide +kernel
theorem d_X_read_22 : decode b_X_read 22 = .ok (.aload 5, 2) := by decide +kernel
theorem d_X_read_24 : decode b_X_read 24 = .ok (.getfield 142, 3) := by decide +kernel
theorem d_X_read_27 : decode b_X_read 27 = .ok (.invokestatic 146, 3) := by decide +kernel
theorem d_X_read_30 : decode b_X_read 30 = .ok (.aload_n 0, 1) := by decide +kernel
theorem d_X_read_31 : decode b_X_read 31 = .ok (.getfield 38, 3) := by decide +kernel
theorem d_X_read_34 : decode b_X_read 34 = .ok (.aload 5, 2) := by decide +kernel
theorem d_X_read_36 : decode b_X_read 36 = .ok (.getfield 150, 3) := by decide +kernel
theorem d_X_read_39 : decode b_X_read 39 = .ok (.iload_n 3, 1) := by decide +kernel
theorem d_X_read_40 : decode b_X_read 40 = .ok (.iaload, 1) := by decide +kernel
theorem d_X_read_41 : decode b_X_read 41 = .ok (.aaload, 1) := by decide +kernel
theorem d_X_read_42 : decode b_X_read 42 = .ok (.astore 6, 2) := by decide +kernel
theorem d_X_read_44 : decode b_X_read 44 = .ok (.iload 4, 2) := by decide +kernel
theorem d_X_read_46 : decode b_X_read 46 = .ok (.aload 6, 2) := by decide +kernel
theorem d_X_read_48 : decode b_X_read 48 = .ok (.getfield 152, 3) := by decide +kernel
theorem d_X_read_51 : decode b_X_read 51 = .ok (.invokestatic 146, 3) := by decide +kernel
theorem d_X_read_54 : decode b_X_read 54 = .ok (.aload 6, 2) := by decide +kernel
theorem d_X_read_56 : decode b_X_read 56 = .ok (.getfield 155, 3) := by decide +kernel
theorem d_X_read_59 : decode b_X_read 59 = .ok (.iload 4, 2) := by decide +kernel
theorem d_X_read_61 : decode b_X_read 61 = .ok (.bipush 8, 2) := by decide +kernel
theorem d_X_read_63 : decode b_X_read 63 = .ok (.idiv, 1) := by decide +kernel
theorem d_X_read_64 : decode b_X_read 64 = .ok (.laload, 1) := by decide +kernel
theorem d_X_read_65 : decode b_X_read 65 = .ok (.iload 4, 2) := by decide +kernel
theorem d_X_read_67 : decode b_X_read 67 = .ok (.bipush 8, 2) := by decide +kernel
theorem d_X_read_69 : decode b_X_read 69 = .ok (.irem, 1) := by decide +kernel
theorem d_X_read_70 : decode b_X_read 70 = .ok (.invokestatic 158, 3) := by decide +kernel
theorem d_X_read_73 : decode b_X_read 73 = .ok (.ireturn, 1) := by decide +kernel
theorem d_X_remove_0 : decode b_X_remove 0 = .ok (.iload_n 1, 1) := by decide +kernel
theorem d_X_remove_1 : decode b_X_remove 1 = .ok (.iload_n 2, 1) := by decide +kernel
theorem d_X_remove_2 : decode b_X_remove 2 = .ok (.invokestatic 124, 3) := by decide +kernel
theorem d_X_remove_5 : decode b_X_remove 5 = .ok (.invokestatic 78, 3) := by decide +kernel
theorem d_X_remove_8 : decode b_X_remove 8 = .ok (.aload_n 0, 1) := by decide +kernel
theorem d_X_remove_9 : decode b_X_remove 9 = .ok (.getfield 31, 3) := by decide +kernel
theorem d_X_remove_12 : decode b_X_remove 12 = .ok (.iload_n 1, 1) := by decide +kernel
theorem d_X_remove_13 : decode b_X_remove 13 = .ok (.aaload, 1) := by decide +kernel
theorem d_X_remove_14 : decode b_X_remove 14 = .ok (.getfield 127, 3) := by decide +kernel
theorem d_X_remove_17 : decode b_X_remove 17 = .ok (.iload_n 2, 1) := by decide +kernel
theorem d_X_remove_18 : decode b_X_remove 18 = .ok (.aaload, 1) := by decide +kernel
theorem d_X_remove_19 : decode b_X_remove 19 = .ok (.astore 4, 2) := by decide +kernel
theorem d_X_remove_21 : decode b_X_remove 21 = .ok (.iload_n 3, 1) := by decide +kernel
theorem d_X_remove_22 : decode b_X_remove 22 = .ok (.aload 4, 2) := by decide +kernel
theorem d_X_remove_24 : decode b_X_remove 24 = .ok (.getfield 142, 3) := by decide +kernel
theorem d_X_remove_27 : decode b_X_remove 27 = .ok (.invokestatic 146, 3) := by decide +kernel
theorem d_X_remove_30 : decode b_X_remove 30 = .ok (.aload 4, 2) := by decide +kernel
theorem d_X_remove_32 : decode b_X_remove 32 = .ok (.getfield 150, 3) := by decide +kernel
theorem d_X_remove_35 : decode b_X_remove 35 = .ok (.iload_n 3, 1) := by decide +kernel
theorem d_X_remove_36 : decode b_X_remove 36 = .ok (.iaload, 1) := by decide +kernel
theorem d_X_remove_37 : decode b_X_remove 37 = .ok (.istore 5, 2) := by decide +kernel
theorem d_X_remove_39 : decode b_X_remove 39 = .ok (.aload 4, 2) := by decide +kernel
theorem d_X_remove_41 : decode b_X_remove 41 = .ok (.iload_n 3, 1) := by decide +kernel
theorem d_X_remove_42 : decode b_X_remove 42 = .ok (.aload_n 0, 1) := by decide +kernel
theorem d_X_remove_43 : decode b_X_remove 43 = .ok (.getfield 38, 3) := by decide +kernel
theorem d_X_remove_46 : decode b_X_remove 46 = .ok (.iload 5, 2) := by decide +kernel
theorem d_X_remove_48 : decode b_X_remove 48 = .ok (.aaload, 1) := by decide +kernel
theorem d_X_remove_49 : decode b_X_remove 49 = .ok (.getfield 152, 3) := by decide +kernel
theorem d_X_remove_52 : decode b_X_remove 52 = .ok (.invokevirtual 162, 3) := by decide +kernel
theorem d_X_remove_55 : decode b_X_remove 55 = .ok (.aload_n 0, 1) := by decide +kernel
theorem d_X_remove_56 : decode b_X_remove 56 = .ok (.iload_n 1, 1) := by decide +kernel
theorem d_X_remove_57 : decode b_X_remove 57 = .ok (.invokevirtual 136, 3) := by decide +kernel
theorem d_X_remove_60 : decode b_X_remove 60 = .ok (.iload 5, 2) := by decide +kernel
theorem d_X_remove_62 : decode b_X_remove 62 = .ok (.ireturn, 1) := by decide +kernel
theorem d_X_shifted_0 : decode b_X_shifted 0 = .ok (.iload_n 0, 1) := by decide +kernel
theorem d_X_shifted_1 : decode b_X_shifted 1 = .ok (.i2l, 1) := by decide +kernel
theorem d_X_shifted_2 : decode b_X_shifted 2 = .ok (.ldc2_w 353, 3) := by decide +kernel
theorem d_X_shifted_5 : decode b_X_shifted 5 = .ok (.land, 1) := by decide +kernel
theorem d_X_shifted_6 : decode b_X_shifted 6 = .ok (.bipush 8, 2) := by decide +kernel
theorem d_X_shifted_8 : decode b_X_shifted 8 = .ok (.iload_n 1, 1) := by decide +kernel
theorem d_X_shifted_9 : decode b_X_shifted 9 = .ok (.imul, 1) := by decide +kernel
theorem d_X_shifted_10 : decode b_X_shifted 10 = .ok (.lshl, 1) := by decide +kernel
theorem d_X_shifted_11 : decode b_X_shifted 11 = .ok (.lreturn, 1) := by decide +kernel
theorem d_X_key_0 : decode b_X_key 0 = .ok (.aload_n 0, 1) := by decide +kernel
theorem d_X_key_1 : decode b_X_key 1 = .ok (.getfield 164, 3) := by decide +kernel
theorem d_X_key_4 : decode b_X_key 4 = .ok (.bipush 32, 2) := by decide +kernel
theorem d_X_key_6 : decode b_X_key 6 = .ok (.if_icmp .ne 5, 3) := by decide +kernel
theorem d_X_key_9 : decode b_X_key 9 = .ok (.iconst 0, 1) := by decide +kernel
theorem d_X_key_10 : decode b_X_key 10 = .ok (.ireturn, 1) := by decide +kernel
theorem d_X_key_11 : decode b_X_key 11 = .ok (.aload_n 0, 1) := by decide +kernel
theorem d_X_key_12 : decode b_X_key 12 = .ok (.getfield 164, 3) := by decide +kernel
theorem d_X_key_15 : decode b_X_key 15 = .ok (.bipush 8, 2) := by decide +kernel
theorem d_X_key_17 : decode b_X_key 17 = .ok (.idiv, 1) := by decide +kernel
theorem d_X_key_18 : decode b_X_key 18 = .ok (.istore_n 2, 1) := by decide +kernel
theorem d_X_key_19 : decode b_X_key 19 = .ok (.aload_n 0, 1) := by decide +kernel
theorem d_X_key_20 : decode b_X_key 20 = .ok (.getfield 43, 3) := by decide +kernel
theorem d_X_key_23 : decode b_X_key 23 = .ok (.iload_n 2, 1) := by decide +kernel
theorem d_X_key_24 : decode b_X_key 24 = .ok (.aload_n 0, 1) := by decide +kernel
theorem d_X_key_25 : decode b_X_key 25 = .ok (.getfield 43, 3) := by decide +kernel
theorem d_X_key_28 : decode b_X_key 28 = .ok (.iload_n 2, 1) := by decide +kernel
theorem d_X_key_29 : decode b_X_key 29 = .ok (.laload, 1) := by decide +kernel
theorem d_X_key_30 : decode b_X_key 30 = .ok (.iload_n 1, 1) := by decide +kernel
theorem d_X_key_31 : decode b_X_key 31 = .ok (.aload_n 0, 1) := by decide +kernel
theorem d_X_key_32 : decode b_X_key 32 = .ok (.getfield 164, 3) := by decide +kernel
theorem d_X_key_35 : decode b_X_key 35 = .ok (.bipush 8, 2) := by decide +kernel
theorem d_X_key_37 : decode b_X_key 37 = .ok (.irem, 1) := by decide +kernel
theorem d_X_key_38 : decode b_X_key 38 = .ok (.invokestatic 167, 3) := by decide +kernel
theorem d_X_key_41 : decode b_X_key 41 = .ok (.lxor, 1) := by decide +kernel
theorem d_X_key_42 : decode b_X_key 42 = .ok (.lastore, 1) := by decide +kernel
theorem d_X_key_43 : decode b_X_key 43 = .ok (.aload_n 0, 1) := by decide +kernel
theorem d_X_key_44 : decode b_X_key 44 = .ok (.dup, 1) := by decide +kernel
theorem d_X_key_45 : decode b_X_key 45 = .ok (.getfield 164, 3) := by decide +kernel
theorem d_X_key_48 : decode b_X_key 48 = .ok (.iconst 1, 1) := by decide +kernel
theorem d_X_key_49 : decode b_X_key 49 = .ok (.iadd, 1) := by decide +kernel
theorem d_X_key_50 : decode b_X_key 50 = .ok (.putfield 164, 3) := by decide +kernel
theorem d_X_key_53 : decode b_X_key 53 = .ok (.iconst 1, 1) := by decide +kernel
theorem d_X_key_54 : decode b_X_key 54 = .ok (.ireturn, 1) := by decide +kernel
theorem d_X_handOverText_0 : decode b_X_handOverText 0 = .ok (.aload_n 0, 1) := by decide +kernel
theorem d_X_handOverText_1 : decode b_X_handOverText 1 = .ok (.getfield 164, 3) := by decide +kernel
theorem d_X_handOverText_4 : decode b_X_handOverText 4 = .ok (.invokestatic 178, 3) := by decide +kernel
theorem d_X_handOverText_7 : decode b_X_handOverText 7 = .ok (.istore_n 3, 1) := by decide +kernel
theorem d_X_handOverText_8 : decode b_X_handOverText 8 = .ok (.iconst 0, 1) := by decide +kernel
theorem d_X_handOverText_9 : decode b_X_handOverText 9 = .ok (.istore 4, 2) := by decide +kernel
theorem d_X_handOverText_11 : decode b_X_handOverText 11 = .ok (.iload 4, 2) := by decide +kernel
theorem d_X_handOverText_13 : decode b_X_handOverText 13 = .ok (.iload_n 3, 1) := by decide +kernel
theorem d_X_handOverText_14 : decode b_X_handOverText 14 = .ok (.if_icmp .ge 27, 3) := by decide +kernel
theorem d_X_handOverText_17 : decode b_X_handOverText 17 = .ok (.aload_n 1, 1) := by decide +kernel
theorem d_X_handOverText_18 : decode b_X_handOverText 18 = .ok (.iload_n 2, 1) := by decide +kernel
theorem d_X_handOverText_19 : decode b_X_handOverText 19 = .ok (.iconst 4, 1) := by decide +kernel
theorem d_X_handOverText_20 : decode b_X_handOverText 20 = .ok (.imul, 1) := by decide +kernel
theorem d_X_handOverText_21 : decode b_X_handOverText 21 = .ok (.iload 4, 2) := by decide +kernel
theorem d_X_handOverText_23 : decode b_X_handOverText 23 = .ok (.iadd, 1) := by decide +kernel
theorem d_X_handOverText_24 : decode b_X_handOverText 24 = .ok (.aload_n 0, 1) := by decide +kernel
theorem d_X_handOverText_25 : decode b_X_handOverText 25 = .ok (.getfield 43, 3) := by decide +kernel
theorem d_X_handOverText_28 : decode b_X_handOverText 28 = .ok (.iload 4, 2) := by decide +kernel
theorem d_X_handOverText_30 : decode b_X_handOverText 30 = .ok (.laload, 1) := by decide +kernel
theorem d_X_handOverText_31 : decode b_X_handOverText 31 = .ok (.iconst 0, 1) := by decide +kernel
theorem d_X_handOverText_32 : decode b_X_handOverText 32 = .ok (.invokevirtual 217, 3) := by decide +kernel
theorem d_X_handOverText_35 : decode b_X_handOverText 35 = .ok (.iinc 4 1, 3) := by decide +kernel
theorem d_X_handOverText_38 : decode b_X_handOverText 38 = .ok (.goto (-27), 3) := by decide +kernel
theorem d_X_handOverText_41 : decode b_X_handOverText 41 = .ok (.aload_n 0, 1) := by decide +kernel
theorem d_X_handOverText_42 : decode b_X_handOverText 42 = .ok (.getfield 43, 3) := by decide +kernel
theorem d_X_handOverText_45 : decode b_X_handOverText 45 = .ok (.lconst 0, 1) := by decide +kernel
theorem d_X_handOverText_46 : decode b_X_handOverText 46 = .ok (.invokestatic 221, 3) := by decide +kernel
theorem d_X_handOverText_49 : decode b_X_handOverText 49 = .ok (.aload_n 0, 1) := by decide +kernel
theorem d_X_handOverText_50 : decode b_X_handOverText 50 = .ok (.iconst 0, 1) := by decide +kernel
theorem d_X_handOverText_51 : decode b_X_handOverText 51 = .ok (.putfield 164, 3) := by decide +kernel
theorem d_X_handOverText_54 : decode b_X_handOverText 54 = .ok (.return_, 1) := by decide +kernel
theorem d_X_post_0 : decode b_X_post 0 = .ok (.iload_n 1, 1) := by decide +kernel
theorem d_X_post_1 : decode b_X_post 1 = .ok (.invokestatic 71, 3) := by decide +kernel
theorem d_X_post_4 : decode b_X_post 4 = .ok (.ifCond .eq 31, 3) := by decide +kernel
theorem d_X_post_7 : decode b_X_post 7 = .ok (.iload_n 2, 1) := by decide +kernel
theorem d_X_post_8 : decode b_X_post 8 = .ok (.invokestatic 71, 3) := by decide +kernel
theorem d_X_post_11 : decode b_X_post 11 = .ok (.ifCond .eq 24, 3) := by decide +kernel
theorem d_X_post_14 : decode b_X_post 14 = .ok (.iload_n 3, 1) := by decide +kernel
theorem d_X_post_15 : decode b_X_post 15 = .ok (.iconst 5, 1) := by decide +kernel
theorem d_X_post_16 : decode b_X_post 16 = .ok (.invokestatic 74, 3) := by decide +kernel
theorem d_X_post_19 : decode b_X_post 19 = .ok (.ifCond .eq 16, 3) := by decide +kernel
theorem d_X_post_22 : decode b_X_post 22 = .ok (.iload 4, 2) := by decide +kernel
theorem d_X_post_24 : decode b_X_post 24 = .ok (.iconst 3, 1) := by decide +kernel
theorem d_X_post_25 : decode b_X_post 25 = .ok (.invokestatic 74, 3) := by decide +kernel
theorem d_X_post_28 : decode b_X_post 28 = .ok (.ifCond .eq 7, 3) := by decide +kernel
theorem d_X_post_31 : decode b_X_post 31 = .ok (.iconst 1, 1) := by decide +kernel
theorem d_X_post_32 : decode b_X_post 32 = .ok (.goto 4, 3) := by decide +kernel
theorem d_X_post_35 : decode b_X_post 35 = .ok (.iconst 0, 1) := by decide +kernel
theorem d_X_post_36 : decode b_X_post 36 = .ok (.invokestatic 78, 3) := by decide +kernel
theorem d_X_post_39 : decode b_X_post 39 = .ok (.aload_n 0, 1) := by decide +kernel
theorem d_X_post_40 : decode b_X_post 40 = .ok (.getfield 164, 3) := by decide +kernel
theorem d_X_post_43 : decode b_X_post 43 = .ok (.ifCond .le 7, 3) := by decide +kernel
theorem d_X_post_46 : decode b_X_post 46 = .ok (.iconst 1, 1) := by decide +kernel
theorem d_X_post_47 : decode b_X_post 47 = .ok (.goto 4, 3) := by decide +kernel
theorem d_X_post_50 : decode b_X_post 50 = .ok (.iconst 0, 1) := by decide +kernel
theorem d_X_post_51 : decode b_X_post 51 = .ok (.invokestatic 78, 3) := by decide +kernel
theorem d_X_post_54 : decode b_X_post 54 = .ok (.aload_n 0, 1) := by decide +kernel
theorem d_X_post_55 : decode b_X_post 55 = .ok (.getfield 171, 3) := by decide +kernel
theorem d_X_post_58 : decode b_X_post 58 = .ok (.bipush 16, 2) := by decide +kernel
theorem d_X_post_60 : decode b_X_post 60 = .ok (.if_icmp .eq 22, 3) := by decide +kernel
theorem d_X_post_63 : decode b_X_post 63 = .ok (.aload_n 0, 1) := by decide +kernel
theorem d_X_post_64 : decode b_X_post 64 = .ok (.getfield 22, 3) := by decide +kernel
theorem d_X_post_67 : decode b_X_post 67 = .ok (.iload_n 1, 1) := by decide +kernel
theorem d_X_post_68 : decode b_X_post 68 = .ok (.aaload, 1) := by decide +kernel
theorem d_X_post_69 : decode b_X_post 69 = .ok (.invokevirtual 174, 3) := by decide +kernel
theorem d_X_post_72 : decode b_X_post 72 = .ok (.aload_n 0, 1) := by decide +kernel
theorem d_X_post_73 : decode b_X_post 73 = .ok (.getfield 164, 3) := by decide +kernel
theorem d_X_post_76 : decode b_X_post 76 = .ok (.invokestatic 178, 3) := by decide +kernel
theorem d_X_post_79 : decode b_X_post 79 = .ok (.if_icmp .ge 11, 3) := by decide +kernel
theorem d_X_post_82 : decode b_X_post 82 = .ok (.new 90, 3) := by decide +kernel
theorem d_X_post_85 : decode b_X_post 85 = .ok (.dup, 1) := by decide +kernel
theorem d_X_post_86 : decode b_X_post 86 = .ok (.invokespecial 92, 3) := by decide +kernel
theorem d_X_post_89 : decode b_X_post 89 = .ok (.athrow, 1) := by decide +kernel
theorem d_X_post_90 : decode b_X_post 90 = .ok (.aload_n 0, 1) := by decide +kernel
theorem d_X_post_91 : decode b_X_post 91 = .ok (.getfield 171, 3) := by decide +kernel
theorem d_X_post_94 : decode b_X_post 94 = .ok (.istore 5, 2) := by decide +kernel
theorem d_X_post_96 : decode b_X_post 96 = .ok (.aload_n 0, 1) := by decide +kernel
theorem d_X_post_97 : decode b_X_post 97 = .ok (.dup, 1) := by decide +kernel
theorem d_X_post_98 : decode b_X_post 98 = .ok (.getfield 171, 3) := by decide +kernel
theorem d_X_post_101 : decode b_X_post 101 = .ok (.iconst 1, 1) := by decide +kernel
theorem d_X_post_102 : decode b_X_post 102 = .ok (.iadd, 1) := by decide +kernel
theorem d_X_post_103 : decode b_X_post 103 = .ok (.putfield 171, 3) := by decide +kernel
theorem d_X_post_106 : decode b_X_post 106 = .ok (.aload_n 0, 1) := by decide +kernel
theorem d_X_post_107 : decode b_X_post 107 = .ok (.getfield 38, 3) := by decide +kernel
theorem d_X_post_110 : decode b_X_post 110 = .ok (.iload 5, 2) := by decide +kernel
theorem d_X_post_112 : decode b_X_post 112 = .ok (.aaload, 1) := by decide +kernel
theorem d_X_post_113 : decode b_X_post 113 = .ok (.astore 6, 2) := by decide +kernel
theorem d_X_post_115 : decode b_X_post 115 = .ok (.aload 6, 2) := by decide +kernel
theorem d_X_post_117 : decode b_X_post 117 = .ok (.iload_n 1, 1) := by decide +kernel
theorem d_X_post_118 : decode b_X_post 118 = .ok (.putfield 182, 3) := by decide +kernel
theorem d_X_post_121 : decode b_X_post 121 = .ok (.aload 6, 2) := by decide +kernel
theorem d_X_post_123 : decode b_X_post 123 = .ok (.iload_n 2, 1) := by decide +kernel
theorem d_X_post_124 : decode b_X_post 124 = .ok (.putfield 185, 3) := by decide +kernel
theorem d_X_post_127 : decode b_X_post 127 = .ok (.aload 6, 2) := by decide +kernel
theorem d_X_post_129 : decode b_X_post 129 = .ok (.iload_n 3, 1) := by decide +kernel
theorem d_X_post_130 : decode b_X_post 130 = .ok (.putfield 188, 3) := by decide +kernel
theorem d_X_post_133 : decode b_X_post 133 = .ok (.aload 6, 2) := by decide +kernel
theorem d_X_post_135 : decode b_X_post 135 = .ok (.iload 4, 2) := by decide +kernel
theorem d_X_post_137 : decode b_X_post 137 = .ok (.putfield 191, 3) := by decide +kernel
theorem d_X_post_140 : decode b_X_post 140 = .ok (.aload 6, 2) := by decide +kernel
theorem d_X_post_142 : decode b_X_post 142 = .ok (.aload_n 0, 1) := by decide +kernel
theorem d_X_post_143 : decode b_X_post 143 = .ok (.getfield 194, 3) := by decide +kernel
theorem d_X_post_146 : decode b_X_post 146 = .ok (.putfield 197, 3) := by decide +kernel
theorem d_X_post_149 : decode b_X_post 149 = .ok (.aload 6, 2) := by decide +kernel
theorem d_X_post_151 : decode b_X_post 151 = .ok (.aload_n 0, 1) := by decide +kernel
theorem d_X_post_152 : decode b_X_post 152 = .ok (.aload_n 0, 1) := by decide +kernel
theorem d_X_post_153 : decode b_X_post 153 = .ok (.getfield 22, 3) := by decide +kernel
theorem d_X_post_156 : decode b_X_post 156 = .ok (.iload_n 1, 1) := by decide +kernel
theorem d_X_post_157 : decode b_X_post 157 = .ok (.aaload, 1) := by decide +kernel
theorem d_X_post_158 : decode b_X_post 158 = .ok (.getfield 107, 3) := by decide +kernel
theorem d_X_post_161 : decode b_X_post 161 = .ok (.iload_n 1, 1) := by decide +kernel
theorem d_X_post_162 : decode b_X_post 162 = .ok (.iload_n 2, 1) := by decide +kernel
theorem d_X_post_163 : decode b_X_post 163 = .ok (.aload_n 0, 1) := by decide +kernel
theorem d_X_post_164 : decode b_X_post 164 = .ok (.getfield 194, 3) := by decide +kernel
theorem d_X_post_167 : decode b_X_post 167 = .ok (.invokevirtual 111, 3) := by decide +kernel
theorem d_X_post_170 : decode b_X_post 170 = .ok (.putfield 200, 3) := by decide +kernel
theorem d_X_post_173 : decode b_X_post 173 = .ok (.aload 6, 2) := by decide +kernel
theorem d_X_post_175 : decode b_X_post 175 = .ok (.aload_n 0, 1) := by decide +kernel
theorem d_X_post_176 : decode b_X_post 176 = .ok (.getfield 164, 3) := by decide +kernel
theorem d_X_post_179 : decode b_X_post 179 = .ok (.putfield 152, 3) := by decide +kernel
theorem d_X_post_182 : decode b_X_post 182 = .ok (.aload 6, 2) := by decide +kernel
theorem d_X_post_184 : decode b_X_post 184 = .ok (.aload_n 0, 1) := by decide +kernel
theorem d_X_post_185 : decode b_X_post 185 = .ok (.getfield 43, 3) := by decide +kernel
theorem d_X_post_188 : decode b_X_post 188 = .ok (.aload_n 0, 1) := by decide +kernel
theorem d_X_post_189 : decode b_X_post 189 = .ok (.getfield 164, 3) := by decide +kernel
theorem d_X_post_192 : decode b_X_post 192 = .ok (.invokestatic 203, 3) := by decide +kernel
theorem d_X_post_195 : decode b_X_post 195 = .ok (.putfield 207, 3) := by decide +kernel
theorem d_X_post_198 : decode b_X_post 198 = .ok (.aload_n 0, 1) := by decide +kernel
theorem d_X_post_199 : decode b_X_post 199 = .ok (.aload_n 0, 1) := by decide +kernel
theorem d_X_post_200 : decode b_X_post 200 = .ok (.getfield 22, 3) := by decide +kernel
theorem d_X_post_203 : decode b_X_post 203 = .ok (.iload_n 1, 1) := by decide +kernel
theorem d_X_post_204 : decode b_X_post 204 = .ok (.aaload, 1) := by decide +kernel
theorem d_X_post_205 : decode b_X_post 205 = .ok (.iload 5, 2) := by decide +kernel
theorem d_X_post_207 : decode b_X_post 207 = .ok (.invokevirtual 210, 3) := by decide +kernel
theorem d_X_post_210 : decode b_X_post 210 = .ok (.iload_n 1, 1) := by decide +kernel
theorem d_X_post_211 : decode b_X_post 211 = .ok (.iload_n 2, 1) := by decide +kernel
theorem d_X_post_212 : decode b_X_post 212 = .ok (.if_icmp .ne 9, 3) := by decide +kernel
theorem d_X_post_215 : decode b_X_post 215 = .ok (.aload_n 0, 1) := by decide +kernel
theorem d_X_post_216 : decode b_X_post 216 = .ok (.iload 5, 2) := by decide +kernel
theorem d_X_post_218 : decode b_X_post 218 = .ok (.invokevirtual 214, 3) := by decide +kernel
theorem d_X_post_221 : decode b_X_post 221 = .ok (.iload 5, 2) := by decide +kernel
theorem d_X_post_223 : decode b_X_post 223 = .ok (.ireturn, 1) := by decide +kernel
theorem d_X_status_0 : decode b_X_status 0 = .ok (.iload_n 1, 1) := by decide +kernel
theorem d_X_status_1 : decode b_X_status 1 = .ok (.aload_n 0, 1) := by decide +kernel
theorem d_X_status_2 : decode b_X_status 2 = .ok (.getfield 171, 3) := by decide +kernel
theorem d_X_status_5 : decode b_X_status 5 = .ok (.invokestatic 74, 3) := by decide +kernel
theorem d_X_status_8 : decode b_X_status 8 = .ok (.invokestatic 78, 3) := by decide +kernel
theorem d_X_status_11 : decode b_X_status 11 = .ok (.aload_n 0, 1) := by decide +kernel
theorem d_X_status_12 : decode b_X_status 12 = .ok (.getfield 22, 3) := by decide +kernel
theorem d_X_status_15 : decode b_X_status 15 = .ok (.aload_n 0, 1) := by decide +kernel
theorem d_X_status_16 : decode b_X_status 16 = .ok (.getfield 38, 3) := by decide +kernel
theorem d_X_status_19 : decode b_X_status 19 = .ok (.iload_n 1, 1) := by decide +kernel
theorem d_X_status_20 : decode b_X_status 20 = .ok (.aaload, 1) := by decide +kernel
theorem d_X_status_21 : decode b_X_status 21 = .ok (.getfield 182, 3) := by decide +kernel
theorem d_X_status_24 : decode b_X_status 24 = .ok (.aaload, 1) := by decide +kernel
theorem d_X_status_25 : decode b_X_status 25 = .ok (.getfield 227, 3) := by decide +kernel
theorem d_X_status_28 : decode b_X_status 28 = .ok (.iload_n 1, 1) := by decide +kernel
theorem d_X_status_29 : decode b_X_status 29 = .ok (.iaload, 1) := by decide +kernel
theorem d_X_status_30 : decode b_X_status 30 = .ok (.istore_n 2, 1) := by decide +kernel
theorem d_X_status_31 : decode b_X_status 31 = .ok (.iload_n 2, 1) := by decide +kernel
theorem d_X_status_32 : decode b_X_status 32 = .ok (.ifCond .ne 19, 3) := by decide +kernel
theorem d_X_status_35 : decode b_X_status 35 = .ok (.aload_n 0, 1) := by decide +kernel
theorem d_X_status_36 : decode b_X_status 36 = .ok (.getfield 38, 3) := by decide +kernel
theorem d_X_status_39 : decode b_X_status 39 = .ok (.iload_n 1, 1) := by decide +kernel
theorem d_X_status_40 : decode b_X_status 40 = .ok (.aaload, 1) := by decide +kernel
theorem d_X_status_41 : decode b_X_status 41 = .ok (.getfield 230, 3) := by decide +kernel
theorem d_X_status_44 : decode b_X_status 44 = .ok (.ifCond .eq 7, 3) := by decide +kernel
theorem d_X_status_47 : decode b_X_status 47 = .ok (.iconst 3, 1) := by decide +kernel
theorem d_X_status_48 : decode b_X_status 48 = .ok (.goto 4, 3) := by decide +kernel
theorem d_X_status_51 : decode b_X_status 51 = .ok (.iload_n 2, 1) := by decide +kernel
theorem d_X_status_52 : decode b_X_status 52 = .ok (.ireturn, 1) := by decide +kernel
theorem d_X_custodians_0 : decode b_X_custodians 0 = .ok (.iload_n 1, 1) := by decide +kernel
theorem d_X_custodians_1 : decode b_X_custodians 1 = .ok (.aload_n 0, 1) := by decide +kernel
theorem d_X_custodians_2 : decode b_X_custodians 2 = .ok (.getfield 171, 3) := by decide +kernel
theorem d_X_custodians_5 : decode b_X_custodians 5 = .ok (.invokestatic 74, 3) := by decide +kernel
theorem d_X_custodians_8 : decode b_X_custodians 8 = .ok (.invokestatic 78, 3) := by decide +kernel
theorem d_X_custodians_11 : decode b_X_custodians 11 = .ok (.iconst 0, 1) := by decide +kernel
theorem d_X_custodians_12 : decode b_X_custodians 12 = .ok (.istore_n 2, 1) := by decide +kernel
theorem d_X_custodians_13 : decode b_X_custodians 13 = .ok (.iconst 0, 1) := by decide +kernel
theorem d_X_custodians_14 : decode b_X_custodians 14 = .ok (.istore_n 3, 1) := by decide +kernel
theorem d_X_custodians_15 : decode b_X_custodians 15 = .ok (.iload_n 3, 1) := by decide +kernel
theorem d_X_custodians_16 : decode b_X_custodians 16 = .ok (.bipush 12, 2) := by decide +kernel
theorem d_X_custodians_18 : decode b_X_custodians 18 = .ok (.if_icmp .ge 28, 3) := by decide +kernel
theorem d_X_custodians_21 : decode b_X_custodians 21 = .ok (.aload_n 0, 1) := by decide +kernel
theorem d_X_custodians_22 : decode b_X_custodians 22 = .ok (.getfield 22, 3) := by decide +kernel
theorem d_X_custodians_25 : decode b_X_custodians 25 = .ok (.iload_n 3, 1) := by decide +kernel
theorem d_X_custodians_26 : decode b_X_custodians 26 = .ok (.aaload, 1) := by decide +kernel
theorem d_X_custodians_27 : decode b_X_custodians 27 = .ok (.iload_n 1, 1) := by decide +kernel
theorem d_X_custodians_28 : decode b_X_custodians 28 = .ok (.invokevirtual 234, 3) := by decide +kernel
theorem d_X_custodians_31 : decode b_X_custodians 31 = .ok (.ifCond .le 9, 3) := by decide +kernel
theorem d_X_custodians_34 : decode b_X_custodians 34 = .ok (.iload_n 2, 1) := by decide +kernel
theorem d_X_custodians_35 : decode b_X_custodians 35 = .ok (.iconst 1, 1) := by decide +kernel
theorem d_X_custodians_36 : decode b_X_custodians 36 = .ok (.iload_n 3, 1) := by decide +kernel
theorem d_X_custodians_37 : decode b_X_custodians 37 = .ok (.ishl, 1) := by decide +kernel
theorem d_X_custodians_38 : decode b_X_custodians 38 = .ok (.ior, 1) := by decide +kernel
theorem d_X_custodians_39 : decode b_X_custodians 39 = .ok (.istore_n 2, 1) := by decide +kernel
theorem d_X_custodians_40 : decode b_X_custodians 40 = .ok (.iinc 3 1, 3) := by decide +kernel
theorem d_X_custodians_43 : decode b_X_custodians 43 = .ok (.goto (-28), 3) := by decide +kernel
theorem d_X_custodians_46 : decode b_X_custodians 46 = .ok (.iload_n 2, 1) := by decide +kernel
theorem d_X_custodians_47 : decode b_X_custodians 47 = .ok (.ireturn, 1) := by decide +kernel
theorem d_X_promise_0 : decode b_X_promise 0 = .ok (.iload_n 1, 1) := by decide +kernel
theorem d_X_promise_1 : decode b_X_promise 1 = .ok (.aload_n 0, 1) := by decide +kernel
theorem d_X_promise_2 : decode b_X_promise 2 = .ok (.getfield 171, 3) := by decide +kernel
theorem d_X_promise_5 : decode b_X_promise 5 = .ok (.invokestatic 74, 3) := by decide +kernel
theorem d_X_promise_8 : decode b_X_promise 8 = .ok (.invokestatic 78, 3) := by decide +kernel
theorem d_X_promise_11 : decode b_X_promise 11 = .ok (.aload_n 0, 1) := by decide +kernel
theorem d_X_promise_12 : decode b_X_promise 12 = .ok (.getfield 38, 3) := by decide +kernel
theorem d_X_promise_15 : decode b_X_promise 15 = .ok (.iload_n 1, 1) := by decide +kernel
theorem d_X_promise_16 : decode b_X_promise 16 = .ok (.aaload, 1) := by decide +kernel
theorem d_X_promise_17 : decode b_X_promise 17 = .ok (.getfield 200, 3) := by decide +kernel
theorem d_X_promise_20 : decode b_X_promise 20 = .ok (.ireturn, 1) := by decide +kernel
theorem d_X_dropCopies_0 : decode b_X_dropCopies 0 = .ok (.iconst 0, 1) := by decide +kernel
theorem d_X_dropCopies_1 : decode b_X_dropCopies 1 = .ok (.istore_n 3, 1) := by decide +kernel
theorem d_X_dropCopies_2 : decode b_X_dropCopies 2 = .ok (.iload_n 3, 1) := by decide +kernel
theorem d_X_dropCopies_3 : decode b_X_dropCopies 3 = .ok (.bipush 12, 2) := by decide +kernel
theorem d_X_dropCopies_5 : decode b_X_dropCopies 5 = .ok (.if_icmp .ge 51, 3) := by decide +kernel
theorem d_X_dropCopies_8 : decode b_X_dropCopies 8 = .ok (.iload_n 2, 1) := by decide +kernel
theorem d_X_dropCopies_9 : decode b_X_dropCopies 9 = .ok (.ifCond .eq 31, 3) := by decide +kernel
theorem d_X_dropCopies_12 : decode b_X_dropCopies 12 = .ok (.aload_n 0, 1) := by decide +kernel
theorem d_X_dropCopies_13 : decode b_X_dropCopies 13 = .ok (.getfield 22, 3) := by decide +kernel
theorem d_X_dropCopies_16 : decode b_X_dropCopies 16 = .ok (.iload_n 3, 1) := by decide +kernel
theorem d_X_dropCopies_17 : decode b_X_dropCopies 17 = .ok (.aaload, 1) := by decide +kernel
theorem d_X_dropCopies_18 : decode b_X_dropCopies 18 = .ok (.iload_n 1, 1) := by decide +kernel
theorem d_X_dropCopies_19 : decode b_X_dropCopies 19 = .ok (.invokevirtual 234, 3) := by decide +kernel
theorem d_X_dropCopies_22 : decode b_X_dropCopies 22 = .ok (.ifCond .le 18, 3) := by decide +kernel
theorem d_X_dropCopies_25 : decode b_X_dropCopies 25 = .ok (.aload_n 0, 1) := by decide +kernel
theorem d_X_dropCopies_26 : decode b_X_dropCopies 26 = .ok (.getfield 22, 3) := by decide +kernel
theorem d_X_dropCopies_29 : decode b_X_dropCopies 29 = .ok (.iload_n 3, 1) := by decide +kernel
theorem d_X_dropCopies_30 : decode b_X_dropCopies 30 = .ok (.aaload, 1) := by decide +kernel
theorem d_X_dropCopies_31 : decode b_X_dropCopies 31 = .ok (.dup, 1) := by decide +kernel
theorem d_X_dropCopies_32 : decode b_X_dropCopies 32 = .ok (.getfield 247, 3) := by decide +kernel
theorem d_X_dropCopies_35 : decode b_X_dropCopies 35 = .ok (.iconst 1, 1) := by decide +kernel
theorem d_X_dropCopies_36 : decode b_X_dropCopies 36 = .ok (.iadd, 1) := by decide +kernel
theorem d_X_dropCopies_37 : decode b_X_dropCopies 37 = .ok (.putfield 247, 3) := by decide +kernel
theorem d_X_dropCopies_40 : decode b_X_dropCopies 40 = .ok (.aload_n 0, 1) := by decide +kernel
theorem d_X_dropCopies_41 : decode b_X_dropCopies 41 = .ok (.getfield 22, 3) := by decide +kernel
theorem d_X_dropCopies_44 : decode b_X_dropCopies 44 = .ok (.iload_n 3, 1) := by decide +kernel
theorem d_X_dropCopies_45 : decode b_X_dropCopies 45 = .ok (.aaload, 1) := by decide +kernel
theorem d_X_dropCopies_46 : decode b_X_dropCopies 46 = .ok (.iload_n 1, 1) := by decide +kernel
theorem d_X_dropCopies_47 : decode b_X_dropCopies 47 = .ok (.invokevirtual 250, 3) := by decide +kernel
theorem d_X_dropCopies_50 : decode b_X_dropCopies 50 = .ok (.iinc 3 1, 3) := by decide +kernel
theorem d_X_dropCopies_53 : decode b_X_dropCopies 53 = .ok (.goto (-51), 3) := by decide +kernel
theorem d_X_dropCopies_56 : decode b_X_dropCopies 56 = .ok (.return_, 1) := by decide +kernel
theorem d_X_expireWhatIsDue_0 : decode b_X_expireWhatIsDue 0 = .ok (.iconst 0, 1) := by decide +kernel
theorem d_X_expireWhatIsDue_1 : decode b_X_expireWhatIsDue 1 = .ok (.istore_n 1, 1) := by decide +kernel
theorem d_X_expireWhatIsDue_2 : decode b_X_expireWhatIsDue 2 = .ok (.iload_n 1, 1) := by decide +kernel
theorem d_X_expireWhatIsDue_3 : decode b_X_expireWhatIsDue 3 = .ok (.aload_n 0, 1) := by decide +kernel
theorem d_X_expireWhatIsDue_4 : decode b_X_expireWhatIsDue 4 = .ok (.getfield 171, 3) := by decide +kernel
theorem d_X_expireWhatIsDue_7 : decode b_X_expireWhatIsDue 7 = .ok (.if_icmp .ge 78, 3) := by decide +kernel
theorem d_X_expireWhatIsDue_10 : decode b_X_expireWhatIsDue 10 = .ok (.aload_n 0, 1) := by decide +kernel
theorem d_X_expireWhatIsDue_11 : decode b_X_expireWhatIsDue 11 = .ok (.getfield 38, 3) := by decide +kernel
theorem d_X_expireWhatIsDue_14 : decode b_X_expireWhatIsDue 14 = .ok (.iload_n 1, 1) := by decide +kernel
theorem d_X_expireWhatIsDue_15 : decode b_X_expireWhatIsDue 15 = .ok (.aaload, 1) := by decide +kernel
theorem d_X_expireWhatIsDue_16 : decode b_X_expireWhatIsDue 16 = .ok (.astore_n 2, 1) := by decide +kernel
theorem d_X_expireWhatIsDue_17 : decode b_X_expireWhatIsDue 17 = .ok (.aload_n 2, 1) := by decide +kernel
theorem d_X_expireWhatIsDue_18 : decode b_X_expireWhatIsDue 18 = .ok (.getfield 240, 3) := by decide +kernel
theorem d_X_expireWhatIsDue_21 : decode b_X_expireWhatIsDue 21 = .ok (.ifCond .ne 58, 3) := by decide +kernel
theorem d_X_expireWhatIsDue_24 : decode b_X_expireWhatIsDue 24 = .ok (.aload_n 0, 1) := by decide +kernel
theorem d_X_expireWhatIsDue_25 : decode b_X_expireWhatIsDue 25 = .ok (.getfield 194, 3) := by decide +kernel
theorem d_X_expireWhatIsDue_28 : decode b_X_expireWhatIsDue 28 = .ok (.aload_n 2, 1) := by decide +kernel
theorem d_X_expireWhatIsDue_29 : decode b_X_expireWhatIsDue 29 = .ok (.getfield 197, 3) := by decide +kernel
theorem d_X_expireWhatIsDue_32 : decode b_X_expireWhatIsDue 32 = .ok (.isub, 1) := by decide +kernel
theorem d_X_expireWhatIsDue_33 : decode b_X_expireWhatIsDue 33 = .ok (.sipush 7200, 3) := by decide +kernel
theorem d_X_expireWhatIsDue_36 : decode b_X_expireWhatIsDue 36 = .ok (.if_icmp .lt 43, 3) := by decide +kernel
theorem d_X_expireWhatIsDue_39 : decode b_X_expireWhatIsDue 39 = .ok (.aload_n 2, 1) := by decide +kernel
theorem d_X_expireWhatIsDue_40 : decode b_X_expireWhatIsDue 40 = .ok (.iconst 1, 1) := by decide +kernel
theorem d_X_expireWhatIsDue_41 : decode b_X_expireWhatIsDue 41 = .ok (.putfield 240, 3) := by decide +kernel
theorem d_X_expireWhatIsDue_44 : decode b_X_expireWhatIsDue 44 = .ok (.aload_n 2, 1) := by decide +kernel
theorem d_X_expireWhatIsDue_45 : decode b_X_expireWhatIsDue 45 = .ok (.aload_n 0, 1) := by decide +kernel
theorem d_X_expireWhatIsDue_46 : decode b_X_expireWhatIsDue 46 = .ok (.getfield 22, 3) := by decide +kernel
theorem d_X_expireWhatIsDue_49 : decode b_X_expireWhatIsDue 49 = .ok (.aload_n 2, 1) := by decide +kernel
theorem d_X_expireWhatIsDue_50 : decode b_X_expireWhatIsDue 50 = .ok (.getfield 185, 3) := by decide +kernel
theorem d_X_expireWhatIsDue_53 : decode b_X_expireWhatIsDue 53 = .ok (.aaload, 1) := by decide +kernel
theorem d_X_expireWhatIsDue_54 : decode b_X_expireWhatIsDue 54 = .ok (.getfield 227, 3) := by decide +kernel
theorem d_X_expireWhatIsDue_57 : decode b_X_expireWhatIsDue 57 = .ok (.iload_n 1, 1) := by decide +kernel
theorem d_X_expireWhatIsDue_58 : decode b_X_expireWhatIsDue 58 = .ok (.iaload, 1) := by decide +kernel
theorem d_X_expireWhatIsDue_59 : decode b_X_expireWhatIsDue 59 = .ok (.ifCond .ne 7, 3) := by decide +kernel
theorem d_X_expireWhatIsDue_62 : decode b_X_expireWhatIsDue 62 = .ok (.iconst 1, 1) := by decide +kernel
theorem d_X_expireWhatIsDue_63 : decode b_X_expireWhatIsDue 63 = .ok (.goto 4, 3) := by decide +kernel
theorem d_X_expireWhatIsDue_66 : decode b_X_expireWhatIsDue 66 = .ok (.iconst 0, 1) := by decide +kernel
theorem d_X_expireWhatIsDue_67 : decode b_X_expireWhatIsDue 67 = .ok (.putfield 230, 3) := by decide +kernel
theorem d_X_expireWhatIsDue_70 : decode b_X_expireWhatIsDue 70 = .ok (.aload_n 0, 1) := by decide +kernel
theorem d_X_expireWhatIsDue_71 : decode b_X_expireWhatIsDue 71 = .ok (.iload_n 1, 1) := by decide +kernel
theorem d_X_expireWhatIsDue_72 : decode b_X_expireWhatIsDue 72 = .ok (.aload_n 2, 1) := by decide +kernel
theorem d_X_expireWhatIsDue_73 : decode b_X_expireWhatIsDue 73 = .ok (.getfield 230, 3) := by decide +kernel
theorem d_X_expireWhatIsDue_76 : decode b_X_expireWhatIsDue 76 = .ok (.invokevirtual 243, 3) := by decide +kernel
theorem d_X_expireWhatIsDue_79 : decode b_X_expireWhatIsDue 79 = .ok (.iinc 1 1, 3) := by decide +kernel
theorem d_X_expireWhatIsDue_82 : decode b_X_expireWhatIsDue 82 = .ok (.goto (-80), 3) := by decide +kernel
theorem d_X_expireWhatIsDue_85 : decode b_X_expireWhatIsDue 85 = .ok (.return_, 1) := by decide +kernel
theorem d_X_minute_0 : decode b_X_minute 0 = .ok (.iload_n 1, 1) := by decide +kernel
theorem d_X_minute_1 : decode b_X_minute 1 = .ok (.iconst 1, 1) := by decide +kernel
theorem d_X_minute_2 : decode b_X_minute 2 = .ok (.if_icmp .lt 14, 3) := by decide +kernel
theorem d_X_minute_5 : decode b_X_minute 5 = .ok (.iload_n 1, 1) := by decide +kernel
theorem d_X_minute_6 : decode b_X_minute 6 = .ok (.sipush 20000, 3) := by decide +kernel
theorem d_X_minute_9 : decode b_X_minute 9 = .ok (.if_icmp .gt 7, 3) := by decide +kernel
theorem d_X_minute_12 : decode b_X_minute 12 = .ok (.iconst 1, 1) := by decide +kernel
theorem d_X_minute_13 : decode b_X_minute 13 = .ok (.goto 4, 3) := by decide +kernel
theorem d_X_minute_16 : decode b_X_minute 16 = .ok (.iconst 0, 1) := by decide +kernel
theorem d_X_minute_17 : decode b_X_minute 17 = .ok (.invokestatic 78, 3) := by decide +kernel
theorem d_X_minute_20 : decode b_X_minute 20 = .ok (.aload_n 0, 1) := by decide +kernel
theorem d_X_minute_21 : decode b_X_minute 21 = .ok (.dup, 1) := by decide +kernel
theorem d_X_minute_22 : decode b_X_minute 22 = .ok (.getfield 194, 3) := by decide +kernel
theorem d_X_minute_25 : decode b_X_minute 25 = .ok (.iconst 1, 1) := by decide +kernel
theorem d_X_minute_26 : decode b_X_minute 26 = .ok (.iadd, 1) := by decide +kernel
theorem d_X_minute_27 : decode b_X_minute 27 = .ok (.putfield 194, 3) := by decide +kernel
theorem d_X_minute_30 : decode b_X_minute 30 = .ok (.aload_n 0, 1) := by decide +kernel
theorem d_X_minute_31 : decode b_X_minute 31 = .ok (.invokevirtual 237, 3) := by decide +kernel
theorem d_X_minute_34 : decode b_X_minute 34 = .ok (.iconst 0, 1) := by decide +kernel
theorem d_X_minute_35 : decode b_X_minute 35 = .ok (.istore_n 2, 1) := by decide +kernel
theorem d_X_minute_36 : decode b_X_minute 36 = .ok (.iload_n 2, 1) := by decide +kernel
theorem d_X_minute_37 : decode b_X_minute 37 = .ok (.aload_n 0, 1) := by decide +kernel
theorem d_X_minute_38 : decode b_X_minute 38 = .ok (.getfield 171, 3) := by decide +kernel
theorem d_X_minute_41 : decode b_X_minute 41 = .ok (.if_icmp .ge 14, 3) := by decide +kernel
theorem d_X_minute_44 : decode b_X_minute 44 = .ok (.aload_n 0, 1) := by decide +kernel
theorem d_X_minute_45 : decode b_X_minute 45 = .ok (.iload_n 2, 1) := by decide +kernel
theorem d_X_minute_46 : decode b_X_minute 46 = .ok (.invokevirtual 214, 3) := by decide +kernel
theorem d_X_minute_49 : decode b_X_minute 49 = .ok (.iinc 2 1, 3) := by decide +kernel
theorem d_X_minute_52 : decode b_X_minute 52 = .ok (.goto (-16), 3) := by decide +kernel
theorem d_X_minute_55 : decode b_X_minute 55 = .ok (.aload_n 0, 1) := by decide +kernel
theorem d_X_minute_56 : decode b_X_minute 56 = .ok (.dup, 1) := by decide +kernel
theorem d_X_minute_57 : decode b_X_minute 57 = .ok (.getfield 194, 3) := by decide +kernel
theorem d_X_minute_60 : decode b_X_minute 60 = .ok (.iload_n 1, 1) := by decide +kernel
theorem d_X_minute_61 : decode b_X_minute 61 = .ok (.iconst 1, 1) := by decide +kernel
theorem d_X_minute_62 : decode b_X_minute 62 = .ok (.isub, 1) := by decide +kernel
theorem d_X_minute_63 : decode b_X_minute 63 = .ok (.iadd, 1) := by decide +kernel
theorem d_X_minute_64 : decode b_X_minute 64 = .ok (.putfield 194, 3) := by decide +kernel
theorem d_X_minute_67 : decode b_X_minute 67 = .ok (.aload_n 0, 1) := by decide +kernel
theorem d_X_minute_68 : decode b_X_minute 68 = .ok (.invokevirtual 237, 3) := by decide +kernel
theorem d_X_minute_71 : decode b_X_minute 71 = .ok (.aload_n 0, 1) := by decide +kernel
theorem d_X_minute_72 : decode b_X_minute 72 = .ok (.getfield 194, 3) := by decide +kernel
theorem d_X_minute_75 : decode b_X_minute 75 = .ok (.ireturn, 1) := by decide +kernel
theorem d_X_shareTimetable_0 : decode b_X_shareTimetable 0 = .ok (.aload_n 0, 1) := by decide +kernel
theorem d_X_shareTimetable_1 : decode b_X_shareTimetable 1 = .ok (.getfield 107, 3) := by decide +kernel
theorem d_X_shareTimetable_4 : decode b_X_shareTimetable 4 = .ok (.aload_n 1, 1) := by decide +kernel
theorem d_X_shareTimetable_5 : decode b_X_shareTimetable 5 = .ok (.getfield 107, 3) := by decide +kernel
theorem d_X_shareTimetable_8 : decode b_X_shareTimetable 8 = .ok (.invokestatic 295, 3) := by decide +kernel
theorem d_X_shareTimetable_11 : decode b_X_shareTimetable 11 = .ok (.istore_n 2, 1) := by decide +kernel
theorem d_X_shareTimetable_12 : decode b_X_shareTimetable 12 = .ok (.aload_n 0, 1) := by decide +kernel
theorem d_X_shareTimetable_13 : decode b_X_shareTimetable 13 = .ok (.iload_n 2, 1) := by decide +kernel
theorem d_X_shareTimetable_14 : decode b_X_shareTimetable 14 = .ok (.putfield 107, 3) := by decide +kernel
theorem d_X_shareTimetable_17 : decode b_X_shareTimetable 17 = .ok (.aload_n 1, 1) := by decide +kernel
theorem d_X_shareTimetable_18 : decode b_X_shareTimetable 18 = .ok (.iload_n 2, 1) := by decide +kernel
theorem d_X_shareTimetable_19 : decode b_X_shareTimetable 19 = .ok (.putfield 107, 3) := by decide +kernel
theorem d_X_shareTimetable_22 : decode b_X_shareTimetable 22 = .ok (.return_, 1) := by decide +kernel
theorem d_X_firmer_0 : decode b_X_firmer 0 = .ok (.iload_n 0, 1) := by decide +kernel
theorem d_X_firmer_1 : decode b_X_firmer 1 = .ok (.ifCond .eq 7, 3) := by decide +kernel
theorem d_X_firmer_4 : decode b_X_firmer 4 = .ok (.iload_n 1, 1) := by decide +kernel
theorem d_X_firmer_5 : decode b_X_firmer 5 = .ok (.ifCond .ne 9, 3) := by decide +kernel
theorem d_X_firmer_8 : decode b_X_firmer 8 = .ok (.iload_n 0, 1) := by decide +kernel
theorem d_X_firmer_9 : decode b_X_firmer 9 = .ok (.iload_n 1, 1) := by decide +kernel
theorem d_X_firmer_10 : decode b_X_firmer 10 = .ok (.invokestatic 295, 3) := by decide +kernel
theorem d_X_firmer_13 : decode b_X_firmer 13 = .ok (.ireturn, 1) := by decide +kernel
theorem d_X_firmer_14 : decode b_X_firmer 14 = .ok (.iload_n 0, 1) := by decide +kernel
theorem d_X_firmer_15 : decode b_X_firmer 15 = .ok (.iconst 1, 1) := by decide +kernel
theorem d_X_firmer_16 : decode b_X_firmer 16 = .ok (.if_icmp .ne 7, 3) := by decide +kernel
theorem d_X_firmer_19 : decode b_X_firmer 19 = .ok (.iload_n 0, 1) := by decide +kernel
theorem d_X_firmer_20 : decode b_X_firmer 20 = .ok (.goto 4, 3) := by decide +kernel
theorem d_X_firmer_23 : decode b_X_firmer 23 = .ok (.iload_n 1, 1) := by decide +kernel
theorem d_X_firmer_24 : decode b_X_firmer 24 = .ok (.ireturn, 1) := by decide +kernel
theorem d_X_shareNews_0 : decode b_X_shareNews 0 = .ok (.iconst 0, 1) := by decide +kernel
theorem d_X_shareNews_1 : decode b_X_shareNews 1 = .ok (.istore_n 3, 1) := by decide +kernel
theorem d_X_shareNews_2 : decode b_X_shareNews 2 = .ok (.iload_n 3, 1) := by decide +kernel
theorem d_X_shareNews_3 : decode b_X_shareNews 3 = .ok (.aload_n 0, 1) := by decide +kernel
theorem d_X_shareNews_4 : decode b_X_shareNews 4 = .ok (.getfield 171, 3) := by decide +kernel
theorem d_X_shareNews_7 : decode b_X_shareNews 7 = .ok (.iconst 4, 1) := by decide +kernel
theorem d_X_shareNews_8 : decode b_X_shareNews 8 = .ok (.imul, 1) := by decide +kernel
theorem d_X_shareNews_9 : decode b_X_shareNews 9 = .ok (.if_icmp .ge 40, 3) := by decide +kernel
theorem d_X_shareNews_12 : decode b_X_shareNews 12 = .ok (.aload_n 1, 1) := by decide +kernel
theorem d_X_shareNews_13 : decode b_X_shareNews 13 = .ok (.getfield 300, 3) := by decide +kernel
theorem d_X_shareNews_16 : decode b_X_shareNews 16 = .ok (.iload_n 3, 1) := by decide +kernel
theorem d_X_shareNews_17 : decode b_X_shareNews 17 = .ok (.iaload, 1) := by decide +kernel
theorem d_X_shareNews_18 : decode b_X_shareNews 18 = .ok (.aload_n 2, 1) := by decide +kernel
theorem d_X_shareNews_19 : decode b_X_shareNews 19 = .ok (.getfield 300, 3) := by decide +kernel
theorem d_X_shareNews_22 : decode b_X_shareNews 22 = .ok (.iload_n 3, 1) := by decide +kernel
theorem d_X_shareNews_23 : decode b_X_shareNews 23 = .ok (.iaload, 1) := by decide +kernel
theorem d_X_shareNews_24 : decode b_X_shareNews 24 = .ok (.invokestatic 295, 3) := by decide +kernel
theorem d_X_shareNews_27 : decode b_X_shareNews 27 = .ok (.istore 4, 2) := by decide +kernel
theorem d_X_shareNews_29 : decode b_X_shareNews 29 = .ok (.aload_n 1, 1) := by decide +kernel
theorem d_X_shareNews_30 : decode b_X_shareNews 30 = .ok (.iload_n 3, 1) := by decide +kernel
theorem d_X_shareNews_31 : decode b_X_shareNews 31 = .ok (.iload 4, 2) := by decide +kernel
theorem d_X_shareNews_33 : decode b_X_shareNews 33 = .ok (.invokevirtual 303, 3) := by decide +kernel
theorem d_X_shareNews_36 : decode b_X_shareNews 36 = .ok (.aload_n 2, 1) := by decide +kernel
theorem d_X_shareNews_37 : decode b_X_shareNews 37 = .ok (.iload_n 3, 1) := by decide +kernel
theorem d_X_shareNews_38 : decode b_X_shareNews 38 = .ok (.iload 4, 2) := by decide +kernel
theorem d_X_shareNews_40 : decode b_X_shareNews 40 = .ok (.invokevirtual 303, 3) := by decide +kernel
theorem d_X_shareNews_43 : decode b_X_shareNews 43 = .ok (.iinc 3 1, 3) := by decide +kernel
theorem d_X_shareNews_46 : decode b_X_shareNews 46 = .ok (.goto (-44), 3) := by decide +kernel
theorem d_X_shareNews_49 : decode b_X_shareNews 49 = .ok (.iconst 0, 1) := by decide +kernel
theorem d_X_shareNews_50 : decode b_X_shareNews 50 = .ok (.istore_n 3, 1) := by decide +kernel
theorem d_X_shareNews_51 : decode b_X_shareNews 51 = .ok (.iload_n 3, 1) := by decide +kernel
theorem d_X_shareNews_52 : decode b_X_shareNews 52 = .ok (.aload_n 0, 1) := by decide +kernel
theorem d_X_shareNews_53 : decode b_X_shareNews 53 = .ok (.getfield 171, 3) := by decide +kernel
theorem d_X_shareNews_56 : decode b_X_shareNews 56 = .ok (.if_icmp .ge 40, 3) := by decide +kernel
theorem d_X_shareNews_59 : decode b_X_shareNews 59 = .ok (.aload_n 1, 1) := by decide +kernel
theorem d_X_shareNews_60 : decode b_X_shareNews 60 = .ok (.getfield 227, 3) := by decide +kernel
theorem d_X_shareNews_63 : decode b_X_shareNews 63 = .ok (.iload_n 3, 1) := by decide +kernel
theorem d_X_shareNews_64 : decode b_X_shareNews 64 = .ok (.iaload, 1) := by decide +kernel
theorem d_X_shareNews_65 : decode b_X_shareNews 65 = .ok (.aload_n 2, 1) := by decide +kernel
theorem d_X_shareNews_66 : decode b_X_shareNews 66 = .ok (.getfield 227, 3) := by decide +kernel
theorem d_X_shareNews_69 : decode b_X_shareNews 69 = .ok (.iload_n 3, 1) := by decide +kernel
theorem d_X_shareNews_70 : decode b_X_shareNews 70 = .ok (.iaload, 1) := by decide +kernel
theorem d_X_shareNews_71 : decode b_X_shareNews 71 = .ok (.invokestatic 306, 3) := by decide +kernel
theorem d_X_shareNews_74 : decode b_X_shareNews 74 = .ok (.istore 4, 2) := by decide +kernel
theorem d_X_shareNews_76 : decode b_X_shareNews 76 = .ok (.aload_n 1, 1) := by decide +kernel
theorem d_X_shareNews_77 : decode b_X_shareNews 77 = .ok (.iload_n 3, 1) := by decide +kernel
theorem d_X_shareNews_78 : decode b_X_shareNews 78 = .ok (.iload 4, 2) := by decide +kernel
theorem d_X_shareNews_80 : decode b_X_shareNews 80 = .ok (.invokevirtual 261, 3) := by decide +kernel
theorem d_X_shareNews_83 : decode b_X_shareNews 83 = .ok (.aload_n 2, 1) := by decide +kernel
theorem d_X_shareNews_84 : decode b_X_shareNews 84 = .ok (.iload_n 3, 1) := by decide +kernel
theorem d_X_shareNews_85 : decode b_X_shareNews 85 = .ok (.iload 4, 2) := by decide +kernel
theorem d_X_shareNews_87 : decode b_X_shareNews 87 = .ok (.invokevirtual 261, 3) := by decide +kernel
theorem d_X_shareNews_90 : decode b_X_shareNews 90 = .ok (.iinc 3 1, 3) := by decide +kernel
theorem d_X_shareNews_93 : decode b_X_shareNews 93 = .ok (.goto (-42), 3) := by decide +kernel
theorem d_X_shareNews_96 : decode b_X_shareNews 96 = .ok (.return_, 1) := by decide +kernel
theorem d_X_offerPiecesOf_0 : decode b_X_offerPiecesOf 0 = .ok (.aload_n 0, 1) := by decide +kernel
theorem d_X_offerPiecesOf_1 : decode b_X_offerPiecesOf 1 = .ok (.getfield 38, 3) := by decide +kernel
theorem d_X_offerPiecesOf_4 : decode b_X_offerPiecesOf 4 = .ok (.iload_n 1, 1) := by decide +kernel
theorem d_X_offerPiecesOf_5 : decode b_X_offerPiecesOf 5 = .ok (.aaload, 1) := by decide +kernel
theorem d_X_offerPiecesOf_6 : decode b_X_offerPiecesOf 6 = .ok (.getfield 185, 3) := by decide +kernel
theorem d_X_offerPiecesOf_9 : decode b_X_offerPiecesOf 9 = .ok (.istore 4, 2) := by decide +kernel
theorem d_X_offerPiecesOf_11 : decode b_X_offerPiecesOf 11 = .ok (.aload_n 0, 1) := by decide +kernel
theorem d_X_offerPiecesOf_12 : decode b_X_offerPiecesOf 12 = .ok (.getfield 50, 3) := by decide +kernel
theorem d_X_offerPiecesOf_15 : decode b_X_offerPiecesOf 15 = .ok (.getfield 119, 3) := by decide +kernel
theorem d_X_offerPiecesOf_18 : decode b_X_offerPiecesOf 18 = .ok (.iload 4, 2) := by decide +kernel
theorem d_X_offerPiecesOf_20 : decode b_X_offerPiecesOf 20 = .ok (.iaload, 1) := by decide +kernel
theorem d_X_offerPiecesOf_21 : decode b_X_offerPiecesOf 21 = .ok (.istore 5, 2) := by decide +kernel
theorem d_X_offerPiecesOf_23 : decode b_X_offerPiecesOf 23 = .ok (.aload_n 0, 1) := by decide +kernel
theorem d_X_offerPiecesOf_24 : decode b_X_offerPiecesOf 24 = .ok (.getfield 54, 3) := by decide +kernel
theorem d_X_offerPiecesOf_27 : decode b_X_offerPiecesOf 27 = .ok (.getfield 119, 3) := by decide +kernel
theorem d_X_offerPiecesOf_30 : decode b_X_offerPiecesOf 30 = .ok (.iload 4, 2) := by decide +kernel
theorem d_X_offerPiecesOf_32 : decode b_X_offerPiecesOf 32 = .ok (.iaload, 1) := by decide +kernel
theorem d_X_offerPiecesOf_33 : decode b_X_offerPiecesOf 33 = .ok (.istore 6, 2) := by decide +kernel
theorem d_X_offerPiecesOf_35 : decode b_X_offerPiecesOf 35 = .ok (.iload 4, 2) := by decide +kernel
theorem d_X_offerPiecesOf_37 : decode b_X_offerPiecesOf 37 = .ok (.iload_n 3, 1) := by decide +kernel
theorem d_X_offerPiecesOf_38 : decode b_X_offerPiecesOf 38 = .ok (.if_icmp .eq 10, 3) := by decide +kernel
theorem d_X_offerPiecesOf_41 : decode b_X_offerPiecesOf 41 = .ok (.iload 5, 2) := by decide +kernel
theorem d_X_offerPiecesOf_43 : decode b_X_offerPiecesOf 43 = .ok (.iload 6, 2) := by decide +kernel
theorem d_X_offerPiecesOf_45 : decode b_X_offerPiecesOf 45 = .ok (.if_icmp .ge 7, 3) := by decide +kernel
theorem d_X_offerPiecesOf_48 : decode b_X_offerPiecesOf 48 = .ok (.iconst 1, 1) := by decide +kernel
theorem d_X_offerPiecesOf_49 : decode b_X_offerPiecesOf 49 = .ok (.goto 4, 3) := by decide +kernel
theorem d_X_offerPiecesOf_52 : decode b_X_offerPiecesOf 52 = .ok (.iconst 0, 1) := by decide +kernel
theorem d_X_offerPiecesOf_53 : decode b_X_offerPiecesOf 53 = .ok (.istore 7, 2) := by decide +kernel
theorem d_X_offerPiecesOf_55 : decode b_X_offerPiecesOf 55 = .ok (.iload 4, 2) := by decide +kernel
theorem d_X_offerPiecesOf_57 : decode b_X_offerPiecesOf 57 = .ok (.iload_n 3, 1) := by decide +kernel
theorem d_X_offerPiecesOf_58 : decode b_X_offerPiecesOf 58 = .ok (.if_icmp .eq 21, 3) := by decide +kernel
theorem d_X_offerPiecesOf_61 : decode b_X_offerPiecesOf 61 = .ok (.iload 6, 2) := by decide +kernel
theorem d_X_offerPiecesOf_63 : decode b_X_offerPiecesOf 63 = .ok (.ldc 123, 2) := by decide +kernel
theorem d_X_offerPiecesOf_65 : decode b_X_offerPiecesOf 65 = .ok (.if_icmp .eq 14, 3) := by decide +kernel
theorem d_X_offerPiecesOf_68 : decode b_X_offerPiecesOf 68 = .ok (.iload 6, 2) := by decide +kernel
theorem d_X_offerPiecesOf_70 : decode b_X_offerPiecesOf 70 = .ok (.iload 5, 2) := by decide +kernel
theorem d_X_offerPiecesOf_72 : decode b_X_offerPiecesOf 72 = .ok (.if_icmp .gt 7, 3) := by decide +kernel
theorem d_X_offerPiecesOf_75 : decode b_X_offerPiecesOf 75 = .ok (.iconst 1, 1) := by decide +kernel
theorem d_X_offerPiecesOf_76 : decode b_X_offerPiecesOf 76 = .ok (.goto 4, 3) := by decide +kernel
theorem d_X_offerPiecesOf_79 : decode b_X_offerPiecesOf 79 = .ok (.iconst 0, 1) := by decide +kernel
theorem d_X_offerPiecesOf_80 : decode b_X_offerPiecesOf 80 = .ok (.istore 8, 2) := by decide +kernel
theorem d_X_offerPiecesOf_82 : decode b_X_offerPiecesOf 82 = .ok (.iload_n 1, 1) := by decide +kernel
theorem d_X_offerPiecesOf_83 : decode b_X_offerPiecesOf 83 = .ok (.iconst 4, 1) := by decide +kernel
theorem d_X_offerPiecesOf_84 : decode b_X_offerPiecesOf 84 = .ok (.imul, 1) := by decide +kernel
theorem d_X_offerPiecesOf_85 : decode b_X_offerPiecesOf 85 = .ok (.istore 9, 2) := by decide +kernel
theorem d_X_offerPiecesOf_87 : decode b_X_offerPiecesOf 87 = .ok (.iload 9, 2) := by decide +kernel
theorem d_X_offerPiecesOf_89 : decode b_X_offerPiecesOf 89 = .ok (.iload_n 1, 1) := by decide +kernel
theorem d_X_offerPiecesOf_90 : decode b_X_offerPiecesOf 90 = .ok (.iconst 1, 1) := by decide +kernel
theorem d_X_offerPiecesOf_91 : decode b_X_offerPiecesOf 91 = .ok (.iadd, 1) := by decide +kernel
theorem d_X_offerPiecesOf_92 : decode b_X_offerPiecesOf 92 = .ok (.iconst 4, 1) := by decide +kernel
theorem d_X_offerPiecesOf_93 : decode b_X_offerPiecesOf 93 = .ok (.imul, 1) := by decide +kernel
theorem d_X_offerPiecesOf_94 : decode b_X_offerPiecesOf 94 = .ok (.if_icmp .ge 65, 3) := by decide +kernel
theorem d_X_offerPiecesOf_97 : decode b_X_offerPiecesOf 97 = .ok (.iload 7, 2) := by decide +kernel
theorem d_X_offerPiecesOf_99 : decode b_X_offerPiecesOf 99 = .ok (.ifCond .eq 26, 3) := by decide +kernel
theorem d_X_offerPiecesOf_102 : decode b_X_offerPiecesOf 102 = .ok (.aload_n 0, 1) := by decide +kernel
theorem d_X_offerPiecesOf_103 : decode b_X_offerPiecesOf 103 = .ok (.getfield 22, 3) := by decide +kernel
theorem d_X_offerPiecesOf_106 : decode b_X_offerPiecesOf 106 = .ok (.iload_n 2, 1) := by decide +kernel
theorem d_X_offerPiecesOf_107 : decode b_X_offerPiecesOf 107 = .ok (.aaload, 1) := by decide +kernel
theorem d_X_offerPiecesOf_108 : decode b_X_offerPiecesOf 108 = .ok (.iload 9, 2) := by decide +kernel
theorem d_X_offerPiecesOf_110 : decode b_X_offerPiecesOf 110 = .ok (.invokevirtual 316, 3) := by decide +kernel
theorem d_X_offerPiecesOf_113 : decode b_X_offerPiecesOf 113 = .ok (.ifCond .eq 12, 3) := by decide +kernel
theorem d_X_offerPiecesOf_116 : decode b_X_offerPiecesOf 116 = .ok (.aload_n 0, 1) := by decide +kernel
theorem d_X_offerPiecesOf_117 : decode b_X_offerPiecesOf 117 = .ok (.getfield 60, 3) := by decide +kernel
theorem d_X_offerPiecesOf_120 : decode b_X_offerPiecesOf 120 = .ok (.iload 9, 2) := by decide +kernel
theorem d_X_offerPiecesOf_122 : decode b_X_offerPiecesOf 122 = .ok (.invokevirtual 319, 3) := by decide +kernel
theorem d_X_offerPiecesOf_125 : decode b_X_offerPiecesOf 125 = .ok (.iload 8, 2) := by decide +kernel
theorem d_X_offerPiecesOf_127 : decode b_X_offerPiecesOf 127 = .ok (.ifCond .eq 26, 3) := by decide +kernel
theorem d_X_offerPiecesOf_130 : decode b_X_offerPiecesOf 130 = .ok (.aload_n 0, 1) := by decide +kernel
theorem d_X_offerPiecesOf_131 : decode b_X_offerPiecesOf 131 = .ok (.getfield 22, 3) := by decide +kernel
theorem d_X_offerPiecesOf_134 : decode b_X_offerPiecesOf 134 = .ok (.iload_n 3, 1) := by decide +kernel
theorem d_X_offerPiecesOf_135 : decode b_X_offerPiecesOf 135 = .ok (.aaload, 1) := by decide +kernel
theorem d_X_offerPiecesOf_136 : decode b_X_offerPiecesOf 136 = .ok (.iload 9, 2) := by decide +kernel
theorem d_X_offerPiecesOf_138 : decode b_X_offerPiecesOf 138 = .ok (.invokevirtual 316, 3) := by decide +kernel
theorem d_X_offerPiecesOf_141 : decode b_X_offerPiecesOf 141 = .ok (.ifCond .eq 12, 3) := by decide +kernel
theorem d_X_offerPiecesOf_144 : decode b_X_offerPiecesOf 144 = .ok (.aload_n 0, 1) := by decide +kernel
theorem d_X_offerPiecesOf_145 : decode b_X_offerPiecesOf 145 = .ok (.getfield 64, 3) := by decide +kernel
theorem d_X_offerPiecesOf_148 : decode b_X_offerPiecesOf 148 = .ok (.iload 9, 2) := by decide +kernel
theorem d_X_offerPiecesOf_150 : decode b_X_offerPiecesOf 150 = .ok (.invokevirtual 319, 3) := by decide +kernel
theorem d_X_offerPiecesOf_153 : decode b_X_offerPiecesOf 153 = .ok (.iinc 9 1, 3) := by decide +kernel
theorem d_X_offerPiecesOf_156 : decode b_X_offerPiecesOf 156 = .ok (.goto (-69), 3) := by decide +kernel
theorem d_X_offerPiecesOf_159 : decode b_X_offerPiecesOf 159 = .ok (.return_, 1) := by decide +kernel
theorem d_X_settleOffers_0 : decode b_X_settleOffers 0 = .ok (.aload_n 0, 1) := by decide +kernel
theorem d_X_settleOffers_1 : decode b_X_settleOffers 1 = .ok (.getfield 16, 3) := by decide +kernel
theorem d_X_settleOffers_4 : decode b_X_settleOffers 4 = .ok (.aload_n 0, 1) := by decide +kernel
theorem d_X_settleOffers_5 : decode b_X_settleOffers 5 = .ok (.getfield 22, 3) := by decide +kernel
theorem d_X_settleOffers_8 : decode b_X_settleOffers 8 = .ok (.iload_n 1, 1) := by decide +kernel
theorem d_X_settleOffers_9 : decode b_X_settleOffers 9 = .ok (.aaload, 1) := by decide +kernel
theorem d_X_settleOffers_10 : decode b_X_settleOffers 10 = .ok (.getfield 107, 3) := by decide +kernel
theorem d_X_settleOffers_13 : decode b_X_settleOffers 13 = .ok (.aaload, 1) := by decide +kernel
theorem d_X_settleOffers_14 : decode b_X_settleOffers 14 = .ok (.astore_n 3, 1) := by decide +kernel
theorem d_X_settleOffers_15 : decode b_X_settleOffers 15 = .ok (.aload_n 0, 1) := by decide +kernel
theorem d_X_settleOffers_16 : decode b_X_settleOffers 16 = .ok (.getfield 50, 3) := by decide +kernel
theorem d_X_settleOffers_19 : decode b_X_settleOffers 19 = .ok (.aload_n 3, 1) := by decide +kernel
theorem d_X_settleOffers_20 : decode b_X_settleOffers 20 = .ok (.iload_n 2, 1) := by decide +kernel
theorem d_X_settleOffers_21 : decode b_X_settleOffers 21 = .ok (.aload_n 0, 1) := by decide +kernel
theorem d_X_settleOffers_22 : decode b_X_settleOffers 22 = .ok (.getfield 194, 3) := by decide +kernel
theorem d_X_settleOffers_25 : decode b_X_settleOffers 25 = .ok (.iconst 1, 1) := by decide +kernel
theorem d_X_settleOffers_26 : decode b_X_settleOffers 26 = .ok (.iadd, 1) := by decide +kernel
theorem d_X_settleOffers_27 : decode b_X_settleOffers 27 = .ok (.invokevirtual 115, 3) := by decide +kernel
theorem d_X_settleOffers_30 : decode b_X_settleOffers 30 = .ok (.aload_n 0, 1) := by decide +kernel
theorem d_X_settleOffers_31 : decode b_X_settleOffers 31 = .ok (.getfield 54, 3) := by decide +kernel
theorem d_X_settleOffers_34 : decode b_X_settleOffers 34 = .ok (.aload_n 3, 1) := by decide +kernel
theorem d_X_settleOffers_35 : decode b_X_settleOffers 35 = .ok (.iload_n 1, 1) := by decide +kernel
theorem d_X_settleOffers_36 : decode b_X_settleOffers 36 = .ok (.aload_n 0, 1) := by decide +kernel
theorem d_X_settleOffers_37 : decode b_X_settleOffers 37 = .ok (.getfield 194, 3) := by decide +kernel
theorem d_X_settleOffers_40 : decode b_X_settleOffers 40 = .ok (.invokevirtual 309, 3) := by decide +kernel
theorem d_X_settleOffers_43 : decode b_X_settleOffers 43 = .ok (.aload_n 0, 1) := by decide +kernel
theorem d_X_settleOffers_44 : decode b_X_settleOffers 44 = .ok (.getfield 60, 3) := by decide +kernel
theorem d_X_settleOffers_47 : decode b_X_settleOffers 47 = .ok (.iconst 0, 1) := by decide +kernel
theorem d_X_settleOffers_48 : decode b_X_settleOffers 48 = .ok (.putfield 312, 3) := by decide +kernel
theorem d_X_settleOffers_51 : decode b_X_settleOffers 51 = .ok (.aload_n 0, 1) := by decide +kernel
theorem d_X_settleOffers_52 : decode b_X_settleOffers 52 = .ok (.getfield 64, 3) := by decide +kernel
theorem d_X_settleOffers_55 : decode b_X_settleOffers 55 = .ok (.iconst 0, 1) := by decide +kernel
theorem d_X_settleOffers_56 : decode b_X_settleOffers 56 = .ok (.putfield 312, 3) := by decide +kernel
theorem d_X_settleOffers_59 : decode b_X_settleOffers 59 = .ok (.iconst 0, 1) := by decide +kernel
theorem d_X_settleOffers_60 : decode b_X_settleOffers 60 = .ok (.istore 4, 2) := by decide +kernel
theorem d_X_settleOffers_62 : decode b_X_settleOffers 62 = .ok (.iload 4, 2) := by decide +kernel
theorem d_X_settleOffers_64 : decode b_X_settleOffers 64 = .ok (.iconst 3, 1) := by decide +kernel
theorem d_X_settleOffers_65 : decode b_X_settleOffers 65 = .ok (.if_icmp .ge 50, 3) := by decide +kernel
theorem d_X_settleOffers_68 : decode b_X_settleOffers 68 = .ok (.iconst 0, 1) := by decide +kernel
theorem d_X_settleOffers_69 : decode b_X_settleOffers 69 = .ok (.istore 5, 2) := by decide +kernel
theorem d_X_settleOffers_71 : decode b_X_settleOffers 71 = .ok (.iload 5, 2) := by decide +kernel
theorem d_X_settleOffers_73 : decode b_X_settleOffers 73 = .ok (.aload_n 0, 1) := by decide +kernel
theorem d_X_settleOffers_74 : decode b_X_settleOffers 74 = .ok (.getfield 171, 3) := by decide +kernel
theorem d_X_settleOffers_77 : decode b_X_settleOffers 77 = .ok (.if_icmp .ge 32, 3) := by decide +kernel
theorem d_X_settleOffers_80 : decode b_X_settleOffers 80 = .ok (.aload_n 0, 1) := by decide +kernel
theorem d_X_settleOffers_81 : decode b_X_settleOffers 81 = .ok (.getfield 38, 3) := by decide +kernel
theorem d_X_settleOffers_84 : decode b_X_settleOffers 84 = .ok (.iload 5, 2) := by decide +kernel
theorem d_X_settleOffers_86 : decode b_X_settleOffers 86 = .ok (.aaload, 1) := by decide +kernel
theorem d_X_settleOffers_87 : decode b_X_settleOffers 87 = .ok (.getfield 191, 3) := by decide +kernel
theorem d_X_settleOffers_90 : decode b_X_settleOffers 90 = .ok (.iload 4, 2) := by decide +kernel
theorem d_X_settleOffers_92 : decode b_X_settleOffers 92 = .ok (.if_icmp .ne 11, 3) := by decide +kernel
theorem d_X_settleOffers_95 : decode b_X_settleOffers 95 = .ok (.aload_n 0, 1) := by decide +kernel
theorem d_X_settleOffers_96 : decode b_X_settleOffers 96 = .ok (.iload 5, 2) := by decide +kernel
theorem d_X_settleOffers_98 : decode b_X_settleOffers 98 = .ok (.iload_n 1, 1) := by decide +kernel
theorem d_X_settleOffers_99 : decode b_X_settleOffers 99 = .ok (.iload_n 2, 1) := by decide +kernel
theorem d_X_settleOffers_100 : decode b_X_settleOffers 100 = .ok (.invokevirtual 313, 3) := by decide +kernel
theorem d_X_settleOffers_103 : decode b_X_settleOffers 103 = .ok (.iinc 5 1, 3) := by decide +kernel
theorem d_X_settleOffers_106 : decode b_X_settleOffers 106 = .ok (.goto (-35), 3) := by decide +kernel
theorem d_X_settleOffers_109 : decode b_X_settleOffers 109 = .ok (.iinc 4 1, 3) := by decide +kernel
theorem d_X_settleOffers_112 : decode b_X_settleOffers 112 = .ok (.goto (-50), 3) := by decide +kernel
theorem d_X_settleOffers_115 : decode b_X_settleOffers 115 = .ok (.return_, 1) := by decide +kernel
theorem d_X_movePiece_0 : decode b_X_movePiece 0 = .ok (.aload_n 2, 1) := by decide +kernel
theorem d_X_movePiece_1 : decode b_X_movePiece 1 = .ok (.iload_n 0, 1) := by decide +kernel
theorem d_X_movePiece_2 : decode b_X_movePiece 2 = .ok (.invokevirtual 316, 3) := by decide +kernel
theorem d_X_movePiece_5 : decode b_X_movePiece 5 = .ok (.ifCond .eq 5, 3) := by decide +kernel
theorem d_X_movePiece_8 : decode b_X_movePiece 8 = .ok (.iconst 0, 1) := by decide +kernel
theorem d_X_movePiece_9 : decode b_X_movePiece 9 = .ok (.ireturn, 1) := by decide +kernel
theorem d_X_movePiece_10 : decode b_X_movePiece 10 = .ok (.aload_n 2, 1) := by decide +kernel
theorem d_X_movePiece_11 : decode b_X_movePiece 11 = .ok (.invokevirtual 174, 3) := by decide +kernel
theorem d_X_movePiece_14 : decode b_X_movePiece 14 = .ok (.ifCond .ne 15, 3) := by decide +kernel
theorem d_X_movePiece_17 : decode b_X_movePiece 17 = .ok (.aload_n 2, 1) := by decide +kernel
theorem d_X_movePiece_18 : decode b_X_movePiece 18 = .ok (.dup, 1) := by decide +kernel
theorem d_X_movePiece_19 : decode b_X_movePiece 19 = .ok (.getfield 329, 3) := by decide +kernel
theorem d_X_movePiece_22 : decode b_X_movePiece 22 = .ok (.iconst 1, 1) := by decide +kernel
theorem d_X_movePiece_23 : decode b_X_movePiece 23 = .ok (.iadd, 1) := by decide +kernel
theorem d_X_movePiece_24 : decode b_X_movePiece 24 = .ok (.putfield 329, 3) := by decide +kernel
theorem d_X_movePiece_27 : decode b_X_movePiece 27 = .ok (.iconst 0, 1) := by decide +kernel
theorem d_X_movePiece_28 : decode b_X_movePiece 28 = .ok (.ireturn, 1) := by decide +kernel
theorem d_X_movePiece_29 : decode b_X_movePiece 29 = .ok (.aload_n 1, 1) := by decide +kernel
theorem d_X_movePiece_30 : decode b_X_movePiece 30 = .ok (.getfield 332, 3) := by decide +kernel
theorem d_X_movePiece_33 : decode b_X_movePiece 33 = .ok (.iload_n 0, 1) := by decide +kernel
theorem d_X_movePiece_34 : decode b_X_movePiece 34 = .ok (.iaload, 1) := by decide +kernel
theorem d_X_movePiece_35 : decode b_X_movePiece 35 = .ok (.iconst 1, 1) := by decide +kernel
theorem d_X_movePiece_36 : decode b_X_movePiece 36 = .ok (.iadd, 1) := by decide +kernel
theorem d_X_movePiece_37 : decode b_X_movePiece 37 = .ok (.istore_n 3, 1) := by decide +kernel
theorem d_X_movePiece_38 : decode b_X_movePiece 38 = .ok (.aload_n 2, 1) := by decide +kernel
theorem d_X_movePiece_39 : decode b_X_movePiece 39 = .ok (.iload_n 0, 1) := by decide +kernel
theorem d_X_movePiece_40 : decode b_X_movePiece 40 = .ok (.aload_n 1, 1) := by decide +kernel
theorem d_X_movePiece_41 : decode b_X_movePiece 41 = .ok (.getfield 253, 3) := by decide +kernel
theorem d_X_movePiece_44 : decode b_X_movePiece 44 = .ok (.iload_n 0, 1) := by decide +kernel
theorem d_X_movePiece_45 : decode b_X_movePiece 45 = .ok (.laload, 1) := by decide +kernel
theorem d_X_movePiece_46 : decode b_X_movePiece 46 = .ok (.iload_n 3, 1) := by decide +kernel
theorem d_X_movePiece_47 : decode b_X_movePiece 47 = .ok (.invokevirtual 217, 3) := by decide +kernel
theorem d_X_movePiece_50 : decode b_X_movePiece 50 = .ok (.aload_n 1, 1) := by decide +kernel
theorem d_X_movePiece_51 : decode b_X_movePiece 51 = .ok (.iload_n 0, 1) := by decide +kernel
theorem d_X_movePiece_52 : decode b_X_movePiece 52 = .ok (.iload_n 3, 1) := by decide +kernel
theorem d_X_movePiece_53 : decode b_X_movePiece 53 = .ok (.invokevirtual 303, 3) := by decide +kernel
theorem d_X_movePiece_56 : decode b_X_movePiece 56 = .ok (.iconst 1, 1) := by decide +kernel
theorem d_X_movePiece_57 : decode b_X_movePiece 57 = .ok (.ireturn, 1) := by decide +kernel
theorem d_X_moveOffered_0 : decode b_X_moveOffered 0 = .ok (.iconst 0, 1) := by decide +kernel
theorem d_X_moveOffered_1 : decode b_X_moveOffered 1 = .ok (.istore 5, 2) := by decide +kernel
theorem d_X_moveOffered_3 : decode b_X_moveOffered 3 = .ok (.iconst 0, 1) := by decide +kernel
theorem d_X_moveOffered_4 : decode b_X_moveOffered 4 = .ok (.istore 6, 2) := by decide +kernel
theorem d_X_moveOffered_6 : decode b_X_moveOffered 6 = .ok (.iload 6, 2) := by decide +kernel
theorem d_X_moveOffered_8 : decode b_X_moveOffered 8 = .ok (.aload_n 1, 1) := by decide +kernel
theorem d_X_moveOffered_9 : decode b_X_moveOffered 9 = .ok (.getfield 312, 3) := by decide +kernel
theorem d_X_moveOffered_12 : decode b_X_moveOffered 12 = .ok (.if_icmp .ge 83, 3) := by decide +kernel
theorem d_X_moveOffered_15 : decode b_X_moveOffered 15 = .ok (.iload 5, 2) := by decide +kernel
theorem d_X_moveOffered_17 : decode b_X_moveOffered 17 = .ok (.iload 4, 2) := by decide +kernel
theorem d_X_moveOffered_19 : decode b_X_moveOffered 19 = .ok (.if_icmp .ge 76, 3) := by decide +kernel
theorem d_X_moveOffered_22 : decode b_X_moveOffered 22 = .ok (.aload_n 1, 1) := by decide +kernel
theorem d_X_moveOffered_23 : decode b_X_moveOffered 23 = .ok (.getfield 322, 3) := by decide +kernel
theorem d_X_moveOffered_26 : decode b_X_moveOffered 26 = .ok (.iload 6, 2) := by decide +kernel
theorem d_X_moveOffered_28 : decode b_X_moveOffered 28 = .ok (.iaload, 1) := by decide +kernel
theorem d_X_moveOffered_29 : decode b_X_moveOffered 29 = .ok (.istore 7, 2) := by decide +kernel
theorem d_X_moveOffered_31 : decode b_X_moveOffered 31 = .ok (.iload 7, 2) := by decide +kernel
theorem d_X_moveOffered_33 : decode b_X_moveOffered 33 = .ok (.aload_n 0, 1) := by decide +kernel
theorem d_X_moveOffered_34 : decode b_X_moveOffered 34 = .ok (.getfield 22, 3) := by decide +kernel
theorem d_X_moveOffered_37 : decode b_X_moveOffered 37 = .ok (.iload_n 2, 1) := by decide +kernel
theorem d_X_moveOffered_38 : decode b_X_moveOffered 38 = .ok (.aaload, 1) := by decide +kernel
theorem d_X_moveOffered_39 : decode b_X_moveOffered 39 = .ok (.aload_n 0, 1) := by decide +kernel
theorem d_X_moveOffered_40 : decode b_X_moveOffered 40 = .ok (.getfield 22, 3) := by decide +kernel
theorem d_X_moveOffered_43 : decode b_X_moveOffered 43 = .ok (.iload_n 3, 1) := by decide +kernel
theorem d_X_moveOffered_44 : decode b_X_moveOffered 44 = .ok (.aaload, 1) := by decide +kernel
theorem d_X_moveOffered_45 : decode b_X_moveOffered 45 = .ok (.invokestatic 325, 3) := by decide +kernel
theorem d_X_moveOffered_48 : decode b_X_moveOffered 48 = .ok (.ifCond .eq 41, 3) := by decide +kernel
theorem d_X_moveOffered_51 : decode b_X_moveOffered 51 = .ok (.iinc 5 1, 3) := by decide +kernel
theorem d_X_moveOffered_54 : decode b_X_moveOffered 54 = .ok (.aload_n 0, 1) := by decide +kernel
theorem d_X_moveOffered_55 : decode b_X_moveOffered 55 = .ok (.iload_n 2, 1) := by decide +kernel
theorem d_X_moveOffered_56 : decode b_X_moveOffered 56 = .ok (.putfield 272, 3) := by decide +kernel
theorem d_X_moveOffered_59 : decode b_X_moveOffered 59 = .ok (.aload_n 0, 1) := by decide +kernel
theorem d_X_moveOffered_60 : decode b_X_moveOffered 60 = .ok (.iload 7, 2) := by decide +kernel
theorem d_X_moveOffered_62 : decode b_X_moveOffered 62 = .ok (.putfield 275, 3) := by decide +kernel
theorem d_X_moveOffered_65 : decode b_X_moveOffered 65 = .ok (.aload_n 0, 1) := by decide +kernel
theorem d_X_moveOffered_66 : decode b_X_moveOffered 66 = .ok (.getfield 38, 3) := by decide +kernel
theorem d_X_moveOffered_69 : decode b_X_moveOffered 69 = .ok (.iload 7, 2) := by decide +kernel
theorem d_X_moveOffered_71 : decode b_X_moveOffered 71 = .ok (.iconst 4, 1) := by decide +kernel
theorem d_X_moveOffered_72 : decode b_X_moveOffered 72 = .ok (.idiv, 1) := by decide +kernel
theorem d_X_moveOffered_73 : decode b_X_moveOffered 73 = .ok (.aaload, 1) := by decide +kernel
theorem d_X_moveOffered_74 : decode b_X_moveOffered 74 = .ok (.getfield 185, 3) := by decide +kernel
theorem d_X_moveOffered_77 : decode b_X_moveOffered 77 = .ok (.iload_n 3, 1) := by decide +kernel
theorem d_X_moveOffered_78 : decode b_X_moveOffered 78 = .ok (.if_icmp .ne 11, 3) := by decide +kernel
theorem d_X_moveOffered_81 : decode b_X_moveOffered 81 = .ok (.aload_n 0, 1) := by decide +kernel
theorem d_X_moveOffered_82 : decode b_X_moveOffered 82 = .ok (.iload 7, 2) := by decide +kernel
theorem d_X_moveOffered_84 : decode b_X_moveOffered 84 = .ok (.iconst 4, 1) := by decide +kernel
theorem d_X_moveOffered_85 : decode b_X_moveOffered 85 = .ok (.idiv, 1) := by decide +kernel
theorem d_X_moveOffered_86 : decode b_X_moveOffered 86 = .ok (.invokevirtual 214, 3) := by decide +kernel
theorem d_X_moveOffered_89 : decode b_X_moveOffered 89 = .ok (.iinc 6 1, 3) := by decide +kernel
theorem d_X_moveOffered_92 : decode b_X_moveOffered 92 = .ok (.goto (-86), 3) := by decide +kernel
theorem d_X_moveOffered_95 : decode b_X_moveOffered 95 = .ok (.iload 5, 2) := by decide +kernel
theorem d_X_moveOffered_97 : decode b_X_moveOffered 97 = .ok (.ireturn, 1) := by decide +kernel
theorem d_X_hold_0 : decode b_X_hold 0 = .ok (.aload_n 0, 1) := by decide +kernel
theorem d_X_hold_1 : decode b_X_hold 1 = .ok (.getfield 22, 3) := by decide +kernel
theorem d_X_hold_4 : decode b_X_hold 4 = .ok (.iload_n 1, 1) := by decide +kernel
theorem d_X_hold_5 : decode b_X_hold 5 = .ok (.aaload, 1) := by decide +kernel
theorem d_X_hold_6 : decode b_X_hold 6 = .ok (.aload_n 0, 1) := by decide +kernel
theorem d_X_hold_7 : decode b_X_hold 7 = .ok (.getfield 22, 3) := by decide +kernel
theorem d_X_hold_10 : decode b_X_hold 10 = .ok (.iload_n 2, 1) := by decide +kernel
theorem d_X_hold_11 : decode b_X_hold 11 = .ok (.aaload, 1) := by decide +kernel
theorem d_X_hold_12 : decode b_X_hold 12 = .ok (.invokestatic 281, 3) := by decide +kernel
theorem d_X_hold_15 : decode b_X_hold 15 = .ok (.aload_n 0, 1) := by decide +kernel
theorem d_X_hold_16 : decode b_X_hold 16 = .ok (.aload_n 0, 1) := by decide +kernel
theorem d_X_hold_17 : decode b_X_hold 17 = .ok (.getfield 22, 3) := by decide +kernel
theorem d_X_hold_20 : decode b_X_hold 20 = .ok (.iload_n 1, 1) := by decide +kernel
theorem d_X_hold_21 : decode b_X_hold 21 = .ok (.aaload, 1) := by decide +kernel
theorem d_X_hold_22 : decode b_X_hold 22 = .ok (.aload_n 0, 1) := by decide +kernel
theorem d_X_hold_23 : decode b_X_hold 23 = .ok (.getfield 22, 3) := by decide +kernel
theorem d_X_hold_26 : decode b_X_hold 26 = .ok (.iload_n 2, 1) := by decide +kernel
theorem d_X_hold_27 : decode b_X_hold 27 = .ok (.aaload, 1) := by decide +kernel
theorem d_X_hold_28 : decode b_X_hold 28 = .ok (.invokevirtual 285, 3) := by decide +kernel
theorem d_X_hold_31 : decode b_X_hold 31 = .ok (.aload_n 0, 1) := by decide +kernel
theorem d_X_hold_32 : decode b_X_hold 32 = .ok (.iload_n 1, 1) := by decide +kernel
theorem d_X_hold_33 : decode b_X_hold 33 = .ok (.iload_n 2, 1) := by decide +kernel
theorem d_X_hold_34 : decode b_X_hold 34 = .ok (.invokevirtual 288, 3) := by decide +kernel
theorem d_X_hold_37 : decode b_X_hold 37 = .ok (.aload_n 0, 1) := by decide +kernel
theorem d_X_hold_38 : decode b_X_hold 38 = .ok (.aload_n 0, 1) := by decide +kernel
theorem d_X_hold_39 : decode b_X_hold 39 = .ok (.getfield 60, 3) := by decide +kernel
theorem d_X_hold_42 : decode b_X_hold 42 = .ok (.iload_n 1, 1) := by decide +kernel
theorem d_X_hold_43 : decode b_X_hold 43 = .ok (.iload_n 2, 1) := by decide +kernel
theorem d_X_hold_44 : decode b_X_hold 44 = .ok (.iload_n 3, 1) := by decide +kernel
theorem d_X_hold_45 : decode b_X_hold 45 = .ok (.invokevirtual 291, 3) := by decide +kernel
theorem d_X_hold_48 : decode b_X_hold 48 = .ok (.istore 4, 2) := by decide +kernel
theorem d_X_hold_50 : decode b_X_hold 50 = .ok (.iload 4, 2) := by decide +kernel
theorem d_X_hold_52 : decode b_X_hold 52 = .ok (.aload_n 0, 1) := by decide +kernel
theorem d_X_hold_53 : decode b_X_hold 53 = .ok (.aload_n 0, 1) := by decide +kernel
theorem d_X_hold_54 : decode b_X_hold 54 = .ok (.getfield 64, 3) := by decide +kernel
theorem d_X_hold_57 : decode b_X_hold 57 = .ok (.iload_n 2, 1) := by decide +kernel
theorem d_X_hold_58 : decode b_X_hold 58 = .ok (.iload_n 1, 1) := by decide +kernel
theorem d_X_hold_59 : decode b_X_hold 59 = .ok (.iload_n 3, 1) := by decide +kernel
theorem d_X_hold_60 : decode b_X_hold 60 = .ok (.invokevirtual 291, 3) := by decide +kernel
theorem d_X_hold_63 : decode b_X_hold 63 = .ok (.iadd, 1) := by decide +kernel
theorem d_X_hold_64 : decode b_X_hold 64 = .ok (.ireturn, 1) := by decide +kernel
theorem d_X_meet_0 : decode b_X_meet 0 = .ok (.iload_n 1, 1) := by decide +kernel
theorem d_X_meet_1 : decode b_X_meet 1 = .ok (.invokestatic 67, 3) := by decide +kernel
theorem d_X_meet_4 : decode b_X_meet 4 = .ok (.ifCond .eq 23, 3) := by decide +kernel
theorem d_X_meet_7 : decode b_X_meet 7 = .ok (.iload_n 2, 1) := by decide +kernel
theorem d_X_meet_8 : decode b_X_meet 8 = .ok (.invokestatic 71, 3) := by decide +kernel
theorem d_X_meet_11 : decode b_X_meet 11 = .ok (.ifCond .eq 16, 3) := by decide +kernel
theorem d_X_meet_14 : decode b_X_meet 14 = .ok (.iload_n 3, 1) := by decide +kernel
theorem d_X_meet_15 : decode b_X_meet 15 = .ok (.bipush 41, 2) := by decide +kernel
theorem d_X_meet_17 : decode b_X_meet 17 = .ok (.invokestatic 74, 3) := by decide +kernel
theorem d_X_meet_20 : decode b_X_meet 20 = .ok (.ifCond .eq 7, 3) := by decide +kernel
theorem d_X_meet_23 : decode b_X_meet 23 = .ok (.iconst 1, 1) := by decide +kernel
theorem d_X_meet_24 : decode b_X_meet 24 = .ok (.goto 4, 3) := by decide +kernel
theorem d_X_meet_27 : decode b_X_meet 27 = .ok (.iconst 0, 1) := by decide +kernel
theorem d_X_meet_28 : decode b_X_meet 28 = .ok (.invokestatic 78, 3) := by decide +kernel
theorem d_X_meet_31 : decode b_X_meet 31 = .ok (.aload_n 0, 1) := by decide +kernel
theorem d_X_meet_32 : decode b_X_meet 32 = .ok (.iload_n 1, 1) := by decide +kernel
theorem d_X_meet_33 : decode b_X_meet 33 = .ok (.iload_n 2, 1) := by decide +kernel
theorem d_X_meet_34 : decode b_X_meet 34 = .ok (.iload_n 3, 1) := by decide +kernel
theorem d_X_meet_35 : decode b_X_meet 35 = .ok (.invokevirtual 268, 3) := by decide +kernel
theorem d_X_meet_38 : decode b_X_meet 38 = .ok (.ireturn, 1) := by decide +kernel
theorem d_X_breakOff_0 : decode b_X_breakOff 0 = .ok (.iload_n 1, 1) := by decide +kernel
theorem d_X_breakOff_1 : decode b_X_breakOff 1 = .ok (.invokestatic 67, 3) := by decide +kernel
theorem d_X_breakOff_4 : decode b_X_breakOff 4 = .ok (.ifCond .eq 23, 3) := by decide +kernel
theorem d_X_breakOff_7 : decode b_X_breakOff 7 = .ok (.iload_n 2, 1) := by decide +kernel
theorem d_X_breakOff_8 : decode b_X_breakOff 8 = .ok (.invokestatic 71, 3) := by decide +kernel
theorem d_X_breakOff_11 : decode b_X_breakOff 11 = .ok (.ifCond .eq 16, 3) := by decide +kernel
theorem d_X_breakOff_14 : decode b_X_breakOff 14 = .ok (.iload_n 3, 1) := by decide +kernel
theorem d_X_breakOff_15 : decode b_X_breakOff 15 = .ok (.bipush 41, 2) := by decide +kernel
theorem d_X_breakOff_17 : decode b_X_breakOff 17 = .ok (.invokestatic 74, 3) := by decide +kernel
theorem d_X_breakOff_20 : decode b_X_breakOff 20 = .ok (.ifCond .eq 7, 3) := by decide +kernel
theorem d_X_breakOff_23 : decode b_X_breakOff 23 = .ok (.iconst 1, 1) := by decide +kernel
theorem d_X_breakOff_24 : decode b_X_breakOff 24 = .ok (.goto 4, 3) := by decide +kernel
theorem d_X_breakOff_27 : decode b_X_breakOff 27 = .ok (.iconst 0, 1) := by decide +kernel
theorem d_X_breakOff_28 : decode b_X_breakOff 28 = .ok (.invokestatic 78, 3) := by decide +kernel
theorem d_X_breakOff_31 : decode b_X_breakOff 31 = .ok (.aload_n 0, 1) := by decide +kernel
theorem d_X_breakOff_32 : decode b_X_breakOff 32 = .ok (.iload_n 1, 1) := by decide +kernel
theorem d_X_breakOff_33 : decode b_X_breakOff 33 = .ok (.iload_n 2, 1) := by decide +kernel
theorem d_X_breakOff_34 : decode b_X_breakOff 34 = .ok (.iload_n 3, 1) := by decide +kernel
theorem d_X_breakOff_35 : decode b_X_breakOff 35 = .ok (.invokevirtual 268, 3) := by decide +kernel
theorem d_X_breakOff_38 : decode b_X_breakOff 38 = .ok (.istore 4, 2) := by decide +kernel
theorem d_X_breakOff_40 : decode b_X_breakOff 40 = .ok (.iload 4, 2) := by decide +kernel
theorem d_X_breakOff_42 : decode b_X_breakOff 42 = .ok (.ifCond .le 19, 3) := by decide +kernel
theorem d_X_breakOff_45 : decode b_X_breakOff 45 = .ok (.aload_n 0, 1) := by decide +kernel
theorem d_X_breakOff_46 : decode b_X_breakOff 46 = .ok (.getfield 22, 3) := by decide +kernel
theorem d_X_breakOff_49 : decode b_X_breakOff 49 = .ok (.aload_n 0, 1) := by decide +kernel
theorem d_X_breakOff_50 : decode b_X_breakOff 50 = .ok (.getfield 272, 3) := by decide +kernel
theorem d_X_breakOff_53 : decode b_X_breakOff 53 = .ok (.aaload, 1) := by decide +kernel
theorem d_X_breakOff_54 : decode b_X_breakOff 54 = .ok (.aload_n 0, 1) := by decide +kernel
theorem d_X_breakOff_55 : decode b_X_breakOff 55 = .ok (.getfield 275, 3) := by decide +kernel
theorem d_X_breakOff_58 : decode b_X_breakOff 58 = .ok (.invokevirtual 278, 3) := by decide +kernel
theorem d_X_breakOff_61 : decode b_X_breakOff 61 = .ok (.iload 4, 2) := by decide +kernel
theorem d_X_breakOff_63 : decode b_X_breakOff 63 = .ok (.ireturn, 1) := by decide +kernel
theorem d_X_isStore_0 : decode b_X_isStore 0 = .ok (.iload_n 0, 1) := by decide +kernel
theorem d_X_isStore_1 : decode b_X_isStore 1 = .ok (.bipush 12, 2) := by decide +kernel
theorem d_X_isStore_3 : decode b_X_isStore 3 = .ok (.invokestatic 74, 3) := by decide +kernel
theorem d_X_isStore_6 : decode b_X_isStore 6 = .ok (.ireturn, 1) := by decide +kernel
theorem d_X_reboot_0 : decode b_X_reboot 0 = .ok (.iload_n 1, 1) := by decide +kernel
theorem d_X_reboot_1 : decode b_X_reboot 1 = .ok (.invokestatic 335, 3) := by decide +kernel
theorem d_X_reboot_4 : decode b_X_reboot 4 = .ok (.invokestatic 78, 3) := by decide +kernel
theorem d_X_reboot_7 : decode b_X_reboot 7 = .ok (.aload_n 0, 1) := by decide +kernel
theorem d_X_reboot_8 : decode b_X_reboot 8 = .ok (.getfield 22, 3) := by decide +kernel
theorem d_X_reboot_11 : decode b_X_reboot 11 = .ok (.iload_n 1, 1) := by decide +kernel
theorem d_X_reboot_12 : decode b_X_reboot 12 = .ok (.aaload, 1) := by decide +kernel
theorem d_X_reboot_13 : decode b_X_reboot 13 = .ok (.astore_n 2, 1) := by decide +kernel
theorem d_X_reboot_14 : decode b_X_reboot 14 = .ok (.aload_n 2, 1) := by decide +kernel
theorem d_X_reboot_15 : decode b_X_reboot 15 = .ok (.iconst 0, 1) := by decide +kernel
theorem d_X_reboot_16 : decode b_X_reboot 16 = .ok (.putfield 107, 3) := by decide +kernel
theorem d_X_reboot_19 : decode b_X_reboot 19 = .ok (.aload_n 2, 1) := by decide +kernel
theorem d_X_reboot_20 : decode b_X_reboot 20 = .ok (.invokevirtual 338, 3) := by decide +kernel
theorem d_X_reboot_23 : decode b_X_reboot 23 = .ok (.iconst 0, 1) := by decide +kernel
theorem d_X_reboot_24 : decode b_X_reboot 24 = .ok (.istore_n 3, 1) := by decide +kernel
theorem d_X_reboot_25 : decode b_X_reboot 25 = .ok (.iload_n 3, 1) := by decide +kernel
theorem d_X_reboot_26 : decode b_X_reboot 26 = .ok (.aload_n 0, 1) := by decide +kernel
theorem d_X_reboot_27 : decode b_X_reboot 27 = .ok (.getfield 171, 3) := by decide +kernel
theorem d_X_reboot_30 : decode b_X_reboot 30 = .ok (.if_icmp .ge 42, 3) := by decide +kernel
theorem d_X_reboot_33 : decode b_X_reboot 33 = .ok (.aload_n 0, 1) := by decide +kernel
theorem d_X_reboot_34 : decode b_X_reboot 34 = .ok (.getfield 38, 3) := by decide +kernel
theorem d_X_reboot_37 : decode b_X_reboot 37 = .ok (.iload_n 3, 1) := by decide +kernel
theorem d_X_reboot_38 : decode b_X_reboot 38 = .ok (.aaload, 1) := by decide +kernel
theorem d_X_reboot_39 : decode b_X_reboot 39 = .ok (.getfield 185, 3) := by decide +kernel
theorem d_X_reboot_42 : decode b_X_reboot 42 = .ok (.iload_n 1, 1) := by decide +kernel
theorem d_X_reboot_43 : decode b_X_reboot 43 = .ok (.if_icmp .eq 23, 3) := by decide +kernel
theorem d_X_reboot_46 : decode b_X_reboot 46 = .ok (.aload_n 0, 1) := by decide +kernel
theorem d_X_reboot_47 : decode b_X_reboot 47 = .ok (.getfield 38, 3) := by decide +kernel
theorem d_X_reboot_50 : decode b_X_reboot 50 = .ok (.iload_n 3, 1) := by decide +kernel
theorem d_X_reboot_51 : decode b_X_reboot 51 = .ok (.aaload, 1) := by decide +kernel
theorem d_X_reboot_52 : decode b_X_reboot 52 = .ok (.getfield 182, 3) := by decide +kernel
theorem d_X_reboot_55 : decode b_X_reboot 55 = .ok (.iload_n 1, 1) := by decide +kernel
theorem d_X_reboot_56 : decode b_X_reboot 56 = .ok (.if_icmp .eq 10, 3) := by decide +kernel
theorem d_X_reboot_59 : decode b_X_reboot 59 = .ok (.aload_n 2, 1) := by decide +kernel
theorem d_X_reboot_60 : decode b_X_reboot 60 = .ok (.getfield 227, 3) := by decide +kernel
theorem d_X_reboot_63 : decode b_X_reboot 63 = .ok (.iload_n 3, 1) := by decide +kernel
theorem d_X_reboot_64 : decode b_X_reboot 64 = .ok (.iconst 0, 1) := by decide +kernel
theorem d_X_reboot_65 : decode b_X_reboot 65 = .ok (.iastore, 1) := by decide +kernel
theorem d_X_reboot_66 : decode b_X_reboot 66 = .ok (.iinc 3 1, 3) := by decide +kernel
theorem d_X_reboot_69 : decode b_X_reboot 69 = .ok (.goto (-44), 3) := by decide +kernel
theorem d_X_reboot_72 : decode b_X_reboot 72 = .ok (.return_, 1) := by decide +kernel
theorem d_X_spoil_0 : decode b_X_spoil 0 = .ok (.iload_n 1, 1) := by decide +kernel
theorem d_X_spoil_1 : decode b_X_spoil 1 = .ok (.invokestatic 335, 3) := by decide +kernel
theorem d_X_spoil_4 : decode b_X_spoil 4 = .ok (.ifCond .eq 18, 3) := by decide +kernel
theorem d_X_spoil_7 : decode b_X_spoil 7 = .ok (.iload_n 2, 1) := by decide +kernel
theorem d_X_spoil_8 : decode b_X_spoil 8 = .ok (.aload_n 0, 1) := by decide +kernel
theorem d_X_spoil_9 : decode b_X_spoil 9 = .ok (.getfield 171, 3) := by decide +kernel
theorem d_X_spoil_12 : decode b_X_spoil 12 = .ok (.invokestatic 74, 3) := by decide +kernel
theorem d_X_spoil_15 : decode b_X_spoil 15 = .ok (.ifCond .eq 7, 3) := by decide +kernel
theorem d_X_spoil_18 : decode b_X_spoil 18 = .ok (.iconst 1, 1) := by decide +kernel
theorem d_X_spoil_19 : decode b_X_spoil 19 = .ok (.goto 4, 3) := by decide +kernel
theorem d_X_spoil_22 : decode b_X_spoil 22 = .ok (.iconst 0, 1) := by decide +kernel
theorem d_X_spoil_23 : decode b_X_spoil 23 = .ok (.invokestatic 78, 3) := by decide +kernel
theorem d_X_spoil_26 : decode b_X_spoil 26 = .ok (.aload_n 0, 1) := by decide +kernel
theorem d_X_spoil_27 : decode b_X_spoil 27 = .ok (.getfield 38, 3) := by decide +kernel
theorem d_X_spoil_30 : decode b_X_spoil 30 = .ok (.iload_n 2, 1) := by decide +kernel
theorem d_X_spoil_31 : decode b_X_spoil 31 = .ok (.aaload, 1) := by decide +kernel
theorem d_X_spoil_32 : decode b_X_spoil 32 = .ok (.getfield 152, 3) := by decide +kernel
theorem d_X_spoil_35 : decode b_X_spoil 35 = .ok (.istore 6, 2) := by decide +kernel
theorem d_X_spoil_37 : decode b_X_spoil 37 = .ok (.iload_n 3, 1) := by decide +kernel
theorem d_X_spoil_38 : decode b_X_spoil 38 = .ok (.iload 6, 2) := by decide +kernel
theorem d_X_spoil_40 : decode b_X_spoil 40 = .ok (.invokestatic 178, 3) := by decide +kernel
theorem d_X_spoil_43 : decode b_X_spoil 43 = .ok (.invokestatic 74, 3) := by decide +kernel
theorem d_X_spoil_46 : decode b_X_spoil 46 = .ok (.invokestatic 78, 3) := by decide +kernel
theorem d_X_spoil_49 : decode b_X_spoil 49 = .ok (.iload 4, 2) := by decide +kernel
theorem d_X_spoil_51 : decode b_X_spoil 51 = .ok (.bipush 8, 2) := by decide +kernel
theorem d_X_spoil_53 : decode b_X_spoil 53 = .ok (.iload 6, 2) := by decide +kernel
theorem d_X_spoil_55 : decode b_X_spoil 55 = .ok (.iload_n 3, 1) := by decide +kernel
theorem d_X_spoil_56 : decode b_X_spoil 56 = .ok (.bipush 8, 2) := by decide +kernel
theorem d_X_spoil_58 : decode b_X_spoil 58 = .ok (.imul, 1) := by decide +kernel
theorem d_X_spoil_59 : decode b_X_spoil 59 = .ok (.isub, 1) := by decide +kernel
theorem d_X_spoil_60 : decode b_X_spoil 60 = .ok (.invokestatic 341, 3) := by decide +kernel
theorem d_X_spoil_63 : decode b_X_spoil 63 = .ok (.invokestatic 74, 3) := by decide +kernel
theorem d_X_spoil_66 : decode b_X_spoil 66 = .ok (.invokestatic 78, 3) := by decide +kernel
theorem d_X_spoil_69 : decode b_X_spoil 69 = .ok (.aload_n 0, 1) := by decide +kernel
theorem d_X_spoil_70 : decode b_X_spoil 70 = .ok (.getfield 22, 3) := by decide +kernel
theorem d_X_spoil_73 : decode b_X_spoil 73 = .ok (.iload_n 1, 1) := by decide +kernel
theorem d_X_spoil_74 : decode b_X_spoil 74 = .ok (.aaload, 1) := by decide +kernel
theorem d_X_spoil_75 : decode b_X_spoil 75 = .ok (.astore 7, 2) := by decide +kernel
theorem d_X_spoil_77 : decode b_X_spoil 77 = .ok (.iload_n 2, 1) := by decide +kernel
theorem d_X_spoil_78 : decode b_X_spoil 78 = .ok (.iconst 4, 1) := by decide +kernel
theorem d_X_spoil_79 : decode b_X_spoil 79 = .ok (.imul, 1) := by decide +kernel
theorem d_X_spoil_80 : decode b_X_spoil 80 = .ok (.iload_n 3, 1) := by decide +kernel
theorem d_X_spoil_81 : decode b_X_spoil 81 = .ok (.iadd, 1) := by decide +kernel
theorem d_X_spoil_82 : decode b_X_spoil 82 = .ok (.istore 8, 2) := by decide +kernel
theorem d_X_spoil_84 : decode b_X_spoil 84 = .ok (.aload 7, 2) := by decide +kernel
theorem d_X_spoil_86 : decode b_X_spoil 86 = .ok (.iload 8, 2) := by decide +kernel
theorem d_X_spoil_88 : decode b_X_spoil 88 = .ok (.invokevirtual 316, 3) := by decide +kernel
theorem d_X_spoil_91 : decode b_X_spoil 91 = .ok (.ifCond .ne 11, 3) := by decide +kernel
theorem d_X_spoil_94 : decode b_X_spoil 94 = .ok (.new 344, 3) := by decide +kernel
theorem d_X_spoil_97 : decode b_X_spoil 97 = .ok (.dup, 1) := by decide +kernel
theorem d_X_spoil_98 : decode b_X_spoil 98 = .ok (.invokespecial 346, 3) := by decide +kernel
theorem d_X_spoil_101 : decode b_X_spoil 101 = .ok (.athrow, 1) := by decide +kernel
theorem d_X_spoil_102 : decode b_X_spoil 102 = .ok (.aload 7, 2) := by decide +kernel
theorem d_X_spoil_104 : decode b_X_spoil 104 = .ok (.getfield 253, 3) := by decide +kernel
theorem d_X_spoil_107 : decode b_X_spoil 107 = .ok (.iload 8, 2) := by decide +kernel
theorem d_X_spoil_109 : decode b_X_spoil 109 = .ok (.dup2, 1) := by decide +kernel
theorem d_X_spoil_110 : decode b_X_spoil 110 = .ok (.laload, 1) := by decide +kernel
theorem d_X_spoil_111 : decode b_X_spoil 111 = .ok (.iload 5, 2) := by decide +kernel
theorem d_X_spoil_113 : decode b_X_spoil 113 = .ok (.iload 4, 2) := by decide +kernel
theorem d_X_spoil_115 : decode b_X_spoil 115 = .ok (.invokestatic 167, 3) := by decide +kernel
theorem d_X_spoil_118 : decode b_X_spoil 118 = .ok (.lxor, 1) := by decide +kernel
theorem d_X_spoil_119 : decode b_X_spoil 119 = .ok (.lastore, 1) := by decide +kernel
theorem d_X_spoil_120 : decode b_X_spoil 120 = .ok (.aload 7, 2) := by decide +kernel
theorem d_X_spoil_122 : decode b_X_spoil 122 = .ok (.getfield 253, 3) := by decide +kernel
theorem d_X_spoil_125 : decode b_X_spoil 125 = .ok (.iload 8, 2) := by decide +kernel
theorem d_X_spoil_127 : decode b_X_spoil 127 = .ok (.laload, 1) := by decide +kernel
theorem d_X_spoil_128 : decode b_X_spoil 128 = .ok (.iload 4, 2) := by decide +kernel
theorem d_X_spoil_130 : decode b_X_spoil 130 = .ok (.invokestatic 158, 3) := by decide +kernel
theorem d_X_spoil_133 : decode b_X_spoil 133 = .ok (.ireturn, 1) := by decide +kernel
theorem d_X_store_0 : decode b_X_store 0 = .ok (.iload_n 1, 1) := by decide +kernel
theorem d_X_store_1 : decode b_X_store 1 = .ok (.invokestatic 335, 3) := by decide +kernel
theorem d_X_store_4 : decode b_X_store 4 = .ok (.ifCond .eq 15, 3) := by decide +kernel
theorem d_X_store_7 : decode b_X_store 7 = .ok (.iload_n 2, 1) := by decide +kernel
theorem d_X_store_8 : decode b_X_store 8 = .ok (.iconst 4, 1) := by decide +kernel
theorem d_X_store_9 : decode b_X_store 9 = .ok (.invokestatic 74, 3) := by decide +kernel
theorem d_X_store_12 : decode b_X_store 12 = .ok (.ifCond .eq 7, 3) := by decide +kernel
theorem d_X_store_15 : decode b_X_store 15 = .ok (.iconst 1, 1) := by decide +kernel
theorem d_X_store_16 : decode b_X_store 16 = .ok (.goto 4, 3) := by decide +kernel
theorem d_X_store_19 : decode b_X_store 19 = .ok (.iconst 0, 1) := by decide +kernel
theorem d_X_store_20 : decode b_X_store 20 = .ok (.invokestatic 78, 3) := by decide +kernel
theorem d_X_store_23 : decode b_X_store 23 = .ok (.aload_n 0, 1) := by decide +kernel
theorem d_X_store_24 : decode b_X_store 24 = .ok (.getfield 22, 3) := by decide +kernel
theorem d_X_store_27 : decode b_X_store 27 = .ok (.iload_n 1, 1) := by decide +kernel
theorem d_X_store_28 : decode b_X_store 28 = .ok (.aaload, 1) := by decide +kernel
theorem d_X_store_29 : decode b_X_store 29 = .ok (.astore_n 3, 1) := by decide +kernel
theorem d_X_store_30 : decode b_X_store 30 = .ok (.iload_n 2, 1) := by decide +kernel
theorem d_X_store_31 : decode b_X_store 31 = .ok (.tableswitch 40 0 2 #[25, 30, 35], 25) := by decide +kernel
theorem d_X_store_56 : decode b_X_store 56 = .ok (.aload_n 3, 1) := by decide +kernel
theorem d_X_store_57 : decode b_X_store 57 = .ok (.invokevirtual 174, 3) := by decide +kernel
theorem d_X_store_60 : decode b_X_store 60 = .ok (.ireturn, 1) := by decide +kernel
theorem d_X_store_61 : decode b_X_store 61 = .ok (.aload_n 3, 1) := by decide +kernel
theorem d_X_store_62 : decode b_X_store 62 = .ok (.getfield 107, 3) := by decide +kernel
theorem d_X_store_65 : decode b_X_store 65 = .ok (.ireturn, 1) := by decide +kernel
theorem d_X_store_66 : decode b_X_store 66 = .ok (.aload_n 3, 1) := by decide +kernel
theorem d_X_store_67 : decode b_X_store 67 = .ok (.getfield 247, 3) := by decide +kernel
theorem d_X_store_70 : decode b_X_store 70 = .ok (.ireturn, 1) := by decide +kernel
theorem d_X_store_71 : decode b_X_store 71 = .ok (.aload_n 3, 1) := by decide +kernel
theorem d_X_store_72 : decode b_X_store 72 = .ok (.getfield 329, 3) := by decide +kernel
theorem d_X_store_75 : decode b_X_store 75 = .ok (.ireturn, 1) := by decide +kernel

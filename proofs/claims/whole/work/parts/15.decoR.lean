theorem d_R_clear_0 : decode b_R_clear 0 = .ok (.aload_n 0, 1) := by decide +kernel
theorem d_R_clear_1 : decode b_R_clear 1 = .ok (.getfield 9, 3) := by decide +kernel
theorem d_R_clear_4 : decode b_R_clear 4 = .ok (.ldc 29, 2) := by decide +kernel
theorem d_R_clear_6 : decode b_R_clear 6 = .ok (.invokestatic 30, 3) := by decide +kernel
theorem d_R_clear_9 : decode b_R_clear 9 = .ok (.aload_n 0, 1) := by decide +kernel
theorem d_R_clear_10 : decode b_R_clear 10 = .ok (.getfield 15, 3) := by decide +kernel
theorem d_R_clear_13 : decode b_R_clear 13 = .ok (.ldc 29, 2) := by decide +kernel
theorem d_R_clear_15 : decode b_R_clear 15 = .ok (.invokestatic 30, 3) := by decide +kernel
theorem d_R_clear_18 : decode b_R_clear 18 = .ok (.iconst 0, 1) := by decide +kernel
theorem d_R_clear_19 : decode b_R_clear 19 = .ok (.istore_n 1, 1) := by decide +kernel
theorem d_R_clear_20 : decode b_R_clear 20 = .ok (.iload_n 1, 1) := by decide +kernel
theorem d_R_clear_21 : decode b_R_clear 21 = .ok (.iconst 4, 1) := by decide +kernel
theorem d_R_clear_22 : decode b_R_clear 22 = .ok (.if_icmp .ge 16, 3) := by decide +kernel
theorem d_R_clear_25 : decode b_R_clear 25 = .ok (.aload_n 0, 1) := by decide +kernel
theorem d_R_clear_26 : decode b_R_clear 26 = .ok (.getfield 18, 3) := by decide +kernel
theorem d_R_clear_29 : decode b_R_clear 29 = .ok (.iload_n 1, 1) := by decide +kernel
theorem d_R_clear_30 : decode b_R_clear 30 = .ok (.iconst 0, 1) := by decide +kernel
theorem d_R_clear_31 : decode b_R_clear 31 = .ok (.bastore, 1) := by decide +kernel
theorem d_R_clear_32 : decode b_R_clear 32 = .ok (.iinc 1 1, 3) := by decide +kernel
theorem d_R_clear_35 : decode b_R_clear 35 = .ok (.goto (-15), 3) := by decide +kernel
theorem d_R_clear_38 : decode b_R_clear 38 = .ok (.return_, 1) := by decide +kernel
theorem d_R_seeStop_0 : decode b_R_seeStop 0 = .ok (.aload_n 0, 1) := by decide +kernel
theorem d_R_seeStop_1 : decode b_R_seeStop 1 = .ok (.getfield 18, 3) := by decide +kernel
theorem d_R_seeStop_4 : decode b_R_seeStop 4 = .ok (.iload_n 1, 1) := by decide +kernel
theorem d_R_seeStop_5 : decode b_R_seeStop 5 = .ok (.baload, 1) := by decide +kernel
theorem d_R_seeStop_6 : decode b_R_seeStop 6 = .ok (.ifCond .eq 30, 3) := by decide +kernel
theorem d_R_seeStop_9 : decode b_R_seeStop 9 = .ok (.aload_n 0, 1) := by decide +kernel
theorem d_R_seeStop_10 : decode b_R_seeStop 10 = .ok (.getfield 9, 3) := by decide +kernel
theorem d_R_seeStop_13 : decode b_R_seeStop 13 = .ok (.iload_n 2, 1) := by decide +kernel
theorem d_R_seeStop_14 : decode b_R_seeStop 14 = .ok (.iaload, 1) := by decide +kernel
theorem d_R_seeStop_15 : decode b_R_seeStop 15 = .ok (.ldc 29, 2) := by decide +kernel
theorem d_R_seeStop_17 : decode b_R_seeStop 17 = .ok (.if_icmp .ne 19, 3) := by decide +kernel
theorem d_R_seeStop_20 : decode b_R_seeStop 20 = .ok (.aload_n 0, 1) := by decide +kernel
theorem d_R_seeStop_21 : decode b_R_seeStop 21 = .ok (.getfield 9, 3) := by decide +kernel
theorem d_R_seeStop_24 : decode b_R_seeStop 24 = .ok (.iload_n 2, 1) := by decide +kernel
theorem d_R_seeStop_25 : decode b_R_seeStop 25 = .ok (.iload_n 3, 1) := by decide +kernel
theorem d_R_seeStop_26 : decode b_R_seeStop 26 = .ok (.iastore, 1) := by decide +kernel
theorem d_R_seeStop_27 : decode b_R_seeStop 27 = .ok (.aload_n 0, 1) := by decide +kernel
theorem d_R_seeStop_28 : decode b_R_seeStop 28 = .ok (.getfield 15, 3) := by decide +kernel
theorem d_R_seeStop_31 : decode b_R_seeStop 31 = .ok (.iload_n 2, 1) := by decide +kernel
theorem d_R_seeStop_32 : decode b_R_seeStop 32 = .ok (.iload_n 3, 1) := by decide +kernel
theorem d_R_seeStop_33 : decode b_R_seeStop 33 = .ok (.iconst 1, 1) := by decide +kernel
theorem d_R_seeStop_34 : decode b_R_seeStop 34 = .ok (.iadd, 1) := by decide +kernel
theorem d_R_seeStop_35 : decode b_R_seeStop 35 = .ok (.iastore, 1) := by decide +kernel
theorem d_R_seeStop_36 : decode b_R_seeStop 36 = .ok (.aload_n 0, 1) := by decide +kernel
theorem d_R_seeStop_37 : decode b_R_seeStop 37 = .ok (.getfield 15, 3) := by decide +kernel
theorem d_R_seeStop_40 : decode b_R_seeStop 40 = .ok (.iload_n 2, 1) := by decide +kernel
theorem d_R_seeStop_41 : decode b_R_seeStop 41 = .ok (.iaload, 1) := by decide +kernel
theorem d_R_seeStop_42 : decode b_R_seeStop 42 = .ok (.iload_n 3, 1) := by decide +kernel
theorem d_R_seeStop_43 : decode b_R_seeStop 43 = .ok (.if_icmp .gt 10, 3) := by decide +kernel
theorem d_R_seeStop_46 : decode b_R_seeStop 46 = .ok (.aload_n 0, 1) := by decide +kernel
theorem d_R_seeStop_47 : decode b_R_seeStop 47 = .ok (.getfield 18, 3) := by decide +kernel
theorem d_R_seeStop_50 : decode b_R_seeStop 50 = .ok (.iload_n 1, 1) := by decide +kernel
theorem d_R_seeStop_51 : decode b_R_seeStop 51 = .ok (.iconst 1, 1) := by decide +kernel
theorem d_R_seeStop_52 : decode b_R_seeStop 52 = .ok (.bastore, 1) := by decide +kernel
theorem d_R_seeStop_53 : decode b_R_seeStop 53 = .ok (.return_, 1) := by decide +kernel
theorem d_R_goBy_0 : decode b_R_goBy 0 = .ok (.iload_n 2, 1) := by decide +kernel
theorem d_R_goBy_1 : decode b_R_goBy 1 = .ok (.iload_n 2, 1) := by decide +kernel
theorem d_R_goBy_2 : decode b_R_goBy 2 = .ok (.sipush 10080, 3) := by decide +kernel
theorem d_R_goBy_5 : decode b_R_goBy 5 = .ok (.invokestatic 36, 3) := by decide +kernel
theorem d_R_goBy_8 : decode b_R_goBy 8 = .ok (.isub, 1) := by decide +kernel
theorem d_R_goBy_9 : decode b_R_goBy 9 = .ok (.istore 4, 2) := by decide +kernel
theorem d_R_goBy_11 : decode b_R_goBy 11 = .ok (.iconst 0, 1) := by decide +kernel
theorem d_R_goBy_12 : decode b_R_goBy 12 = .ok (.istore 5, 2) := by decide +kernel
theorem d_R_goBy_14 : decode b_R_goBy 14 = .ok (.iload 5, 2) := by decide +kernel
theorem d_R_goBy_16 : decode b_R_goBy 16 = .ok (.iconst 3, 1) := by decide +kernel
theorem d_R_goBy_17 : decode b_R_goBy 17 = .ok (.if_icmp .ge 80, 3) := by decide +kernel
theorem d_R_goBy_20 : decode b_R_goBy 20 = .ok (.iconst 0, 1) := by decide +kernel
theorem d_R_goBy_21 : decode b_R_goBy 21 = .ok (.istore 6, 2) := by decide +kernel
theorem d_R_goBy_23 : decode b_R_goBy 23 = .ok (.iload 6, 2) := by decide +kernel
theorem d_R_goBy_25 : decode b_R_goBy 25 = .ok (.aload_n 1, 1) := by decide +kernel
theorem d_R_goBy_26 : decode b_R_goBy 26 = .ok (.getfield 42, 3) := by decide +kernel
theorem d_R_goBy_29 : decode b_R_goBy 29 = .ok (.if_icmp .ge 56, 3) := by decide +kernel
theorem d_R_goBy_32 : decode b_R_goBy 32 = .ok (.iload 4, 2) := by decide +kernel
theorem d_R_goBy_34 : decode b_R_goBy 34 = .ok (.aload_n 1, 1) := by decide +kernel
theorem d_R_goBy_35 : decode b_R_goBy 35 = .ok (.getfield 48, 3) := by decide +kernel
theorem d_R_goBy_38 : decode b_R_goBy 38 = .ok (.iload 6, 2) := by decide +kernel
theorem d_R_goBy_40 : decode b_R_goBy 40 = .ok (.iaload, 1) := by decide +kernel
theorem d_R_goBy_41 : decode b_R_goBy 41 = .ok (.iadd, 1) := by decide +kernel
theorem d_R_goBy_42 : decode b_R_goBy 42 = .ok (.istore 7, 2) := by decide +kernel
theorem d_R_goBy_44 : decode b_R_goBy 44 = .ok (.iload 7, 2) := by decide +kernel
theorem d_R_goBy_46 : decode b_R_goBy 46 = .ok (.iload_n 2, 1) := by decide +kernel
theorem d_R_goBy_47 : decode b_R_goBy 47 = .ok (.if_icmp .lt 32, 3) := by decide +kernel
theorem d_R_goBy_50 : decode b_R_goBy 50 = .ok (.iload 7, 2) := by decide +kernel
theorem d_R_goBy_52 : decode b_R_goBy 52 = .ok (.iload_n 3, 1) := by decide +kernel
theorem d_R_goBy_53 : decode b_R_goBy 53 = .ok (.if_icmp .gt 26, 3) := by decide +kernel
theorem d_R_goBy_56 : decode b_R_goBy 56 = .ok (.aload_n 0, 1) := by decide +kernel
theorem d_R_goBy_57 : decode b_R_goBy 57 = .ok (.aload_n 1, 1) := by decide +kernel
theorem d_R_goBy_58 : decode b_R_goBy 58 = .ok (.getfield 51, 3) := by decide +kernel
theorem d_R_goBy_61 : decode b_R_goBy 61 = .ok (.iload 6, 2) := by decide +kernel
theorem d_R_goBy_63 : decode b_R_goBy 63 = .ok (.iaload, 1) := by decide +kernel
theorem d_R_goBy_64 : decode b_R_goBy 64 = .ok (.bipush 8, 2) := by decide +kernel
theorem d_R_goBy_66 : decode b_R_goBy 66 = .ok (.isub, 1) := by decide +kernel
theorem d_R_goBy_67 : decode b_R_goBy 67 = .ok (.aload_n 1, 1) := by decide +kernel
theorem d_R_goBy_68 : decode b_R_goBy 68 = .ok (.getfield 54, 3) := by decide +kernel
theorem d_R_goBy_71 : decode b_R_goBy 71 = .ok (.iload 6, 2) := by decide +kernel
theorem d_R_goBy_73 : decode b_R_goBy 73 = .ok (.iaload, 1) := by decide +kernel
theorem d_R_goBy_74 : decode b_R_goBy 74 = .ok (.iload 7, 2) := by decide +kernel
theorem d_R_goBy_76 : decode b_R_goBy 76 = .ok (.invokevirtual 57, 3) := by decide +kernel
theorem d_R_goBy_79 : decode b_R_goBy 79 = .ok (.iinc 6 1, 3) := by decide +kernel
theorem d_R_goBy_82 : decode b_R_goBy 82 = .ok (.goto (-59), 3) := by decide +kernel
theorem d_R_goBy_85 : decode b_R_goBy 85 = .ok (.iinc 4 10080, 6) := by decide +kernel
theorem d_R_goBy_91 : decode b_R_goBy 91 = .ok (.iinc 5 1, 3) := by decide +kernel
theorem d_R_goBy_94 : decode b_R_goBy 94 = .ok (.goto (-80), 3) := by decide +kernel
theorem d_R_goBy_97 : decode b_R_goBy 97 = .ok (.return_, 1) := by decide +kernel
theorem d_R_startAtKiosk_0 : decode b_R_startAtKiosk 0 = .ok (.aload_n 0, 1) := by decide +kernel
theorem d_R_startAtKiosk_1 : decode b_R_startAtKiosk 1 = .ok (.invokevirtual 22, 3) := by decide +kernel
theorem d_R_startAtKiosk_4 : decode b_R_startAtKiosk 4 = .ok (.aload_n 0, 1) := by decide +kernel
theorem d_R_startAtKiosk_5 : decode b_R_startAtKiosk 5 = .ok (.getfield 9, 3) := by decide +kernel
theorem d_R_startAtKiosk_8 : decode b_R_startAtKiosk 8 = .ok (.iload_n 2, 1) := by decide +kernel
theorem d_R_startAtKiosk_9 : decode b_R_startAtKiosk 9 = .ok (.iload_n 3, 1) := by decide +kernel
theorem d_R_startAtKiosk_10 : decode b_R_startAtKiosk 10 = .ok (.iastore, 1) := by decide +kernel
theorem d_R_startAtKiosk_11 : decode b_R_startAtKiosk 11 = .ok (.aload_n 0, 1) := by decide +kernel
theorem d_R_startAtKiosk_12 : decode b_R_startAtKiosk 12 = .ok (.getfield 15, 3) := by decide +kernel
theorem d_R_startAtKiosk_15 : decode b_R_startAtKiosk 15 = .ok (.iload_n 2, 1) := by decide +kernel
theorem d_R_startAtKiosk_16 : decode b_R_startAtKiosk 16 = .ok (.iload_n 3, 1) := by decide +kernel
theorem d_R_startAtKiosk_17 : decode b_R_startAtKiosk 17 = .ok (.iastore, 1) := by decide +kernel
theorem d_R_startAtKiosk_18 : decode b_R_startAtKiosk 18 = .ok (.aload_n 0, 1) := by decide +kernel
theorem d_R_startAtKiosk_19 : decode b_R_startAtKiosk 19 = .ok (.aload_n 1, 1) := by decide +kernel
theorem d_R_startAtKiosk_20 : decode b_R_startAtKiosk 20 = .ok (.iload_n 3, 1) := by decide +kernel
theorem d_R_startAtKiosk_21 : decode b_R_startAtKiosk 21 = .ok (.iload_n 3, 1) := by decide +kernel
theorem d_R_startAtKiosk_22 : decode b_R_startAtKiosk 22 = .ok (.sipush 20160, 3) := by decide +kernel
theorem d_R_startAtKiosk_25 : decode b_R_startAtKiosk 25 = .ok (.iadd, 1) := by decide +kernel
theorem d_R_startAtKiosk_26 : decode b_R_startAtKiosk 26 = .ok (.invokevirtual 25, 3) := by decide +kernel
theorem d_R_startAtKiosk_29 : decode b_R_startAtKiosk 29 = .ok (.return_, 1) := by decide +kernel
theorem d_R_startOnBus_0 : decode b_R_startOnBus 0 = .ok (.aload_n 0, 1) := by decide +kernel
theorem d_R_startOnBus_1 : decode b_R_startOnBus 1 = .ok (.invokevirtual 22, 3) := by decide +kernel
theorem d_R_startOnBus_4 : decode b_R_startOnBus 4 = .ok (.aload_n 0, 1) := by decide +kernel
theorem d_R_startOnBus_5 : decode b_R_startOnBus 5 = .ok (.getfield 18, 3) := by decide +kernel
theorem d_R_startOnBus_8 : decode b_R_startOnBus 8 = .ok (.iload_n 2, 1) := by decide +kernel
theorem d_R_startOnBus_9 : decode b_R_startOnBus 9 = .ok (.bipush 8, 2) := by decide +kernel
theorem d_R_startOnBus_11 : decode b_R_startOnBus 11 = .ok (.isub, 1) := by decide +kernel
theorem d_R_startOnBus_12 : decode b_R_startOnBus 12 = .ok (.iconst 1, 1) := by decide +kernel
theorem d_R_startOnBus_13 : decode b_R_startOnBus 13 = .ok (.bastore, 1) := by decide +kernel
theorem d_R_startOnBus_14 : decode b_R_startOnBus 14 = .ok (.aload_n 0, 1) := by decide +kernel
theorem d_R_startOnBus_15 : decode b_R_startOnBus 15 = .ok (.aload_n 1, 1) := by decide +kernel
theorem d_R_startOnBus_16 : decode b_R_startOnBus 16 = .ok (.iload_n 3, 1) := by decide +kernel
theorem d_R_startOnBus_17 : decode b_R_startOnBus 17 = .ok (.iconst 1, 1) := by decide +kernel
theorem d_R_startOnBus_18 : decode b_R_startOnBus 18 = .ok (.iadd, 1) := by decide +kernel
theorem d_R_startOnBus_19 : decode b_R_startOnBus 19 = .ok (.iload_n 3, 1) := by decide +kernel
theorem d_R_startOnBus_20 : decode b_R_startOnBus 20 = .ok (.sipush 20160, 3) := by decide +kernel
theorem d_R_startOnBus_23 : decode b_R_startOnBus 23 = .ok (.iadd, 1) := by decide +kernel
theorem d_R_startOnBus_24 : decode b_R_startOnBus 24 = .ok (.invokevirtual 25, 3) := by decide +kernel
theorem d_R_startOnBus_27 : decode b_R_startOnBus 27 = .ok (.return_, 1) := by decide +kernel

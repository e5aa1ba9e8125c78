theorem d_M_thrown_0 : decode b_M_thrown 0 = .ok (.aload_n 0, 1) := by decide +kernel
theorem d_M_thrown_1 : decode b_M_thrown 1 = .ok (.getfield 104, 3) := by decide +kernel
theorem d_M_thrown_4 : decode b_M_thrown 4 = .ok (.ireturn, 1) := by decide +kernel
theorem d_M_upTo_0 : decode b_M_upTo 0 = .ok (.iload_n 0, 1) := by decide +kernel
theorem d_M_upTo_1 : decode b_M_upTo 1 = .ok (.ifCond .lt 12, 3) := by decide +kernel
theorem d_M_upTo_4 : decode b_M_upTo 4 = .ok (.iload_n 0, 1) := by decide +kernel
theorem d_M_upTo_5 : decode b_M_upTo 5 = .ok (.iload_n 1, 1) := by decide +kernel
theorem d_M_upTo_6 : decode b_M_upTo 6 = .ok (.if_icmp .gt 7, 3) := by decide +kernel
theorem d_M_upTo_9 : decode b_M_upTo 9 = .ok (.iconst 1, 1) := by decide +kernel
theorem d_M_upTo_10 : decode b_M_upTo 10 = .ok (.goto 4, 3) := by decide +kernel
theorem d_M_upTo_13 : decode b_M_upTo 13 = .ok (.iconst 0, 1) := by decide +kernel
theorem d_M_upTo_14 : decode b_M_upTo 14 = .ok (.ireturn, 1) := by decide +kernel
theorem d_M_isKiosk_0 : decode b_M_isKiosk 0 = .ok (.iload_n 0, 1) := by decide +kernel
theorem d_M_isKiosk_1 : decode b_M_isKiosk 1 = .ok (.bipush 7, 2) := by decide +kernel
theorem d_M_isKiosk_3 : decode b_M_isKiosk 3 = .ok (.invokestatic 108, 3) := by decide +kernel
theorem d_M_isKiosk_6 : decode b_M_isKiosk 6 = .ok (.ireturn, 1) := by decide +kernel
theorem d_M_isBus_0 : decode b_M_isBus 0 = .ok (.iload_n 0, 1) := by decide +kernel
theorem d_M_isBus_1 : decode b_M_isBus 1 = .ok (.bipush 8, 2) := by decide +kernel
theorem d_M_isBus_3 : decode b_M_isBus 3 = .ok (.if_icmp .lt 13, 3) := by decide +kernel
theorem d_M_isBus_6 : decode b_M_isBus 6 = .ok (.iload_n 0, 1) := by decide +kernel
theorem d_M_isBus_7 : decode b_M_isBus 7 = .ok (.bipush 11, 2) := by decide +kernel
theorem d_M_isBus_9 : decode b_M_isBus 9 = .ok (.if_icmp .gt 7, 3) := by decide +kernel
theorem d_M_isBus_12 : decode b_M_isBus 12 = .ok (.iconst 1, 1) := by decide +kernel
theorem d_M_isBus_13 : decode b_M_isBus 13 = .ok (.goto 4, 3) := by decide +kernel
theorem d_M_isBus_16 : decode b_M_isBus 16 = .ok (.iconst 0, 1) := by decide +kernel
theorem d_M_isBus_17 : decode b_M_isBus 17 = .ok (.ireturn, 1) := by decide +kernel
theorem d_M_isLetter_0 : decode b_M_isLetter 0 = .ok (.iload_n 1, 1) := by decide +kernel
theorem d_M_isLetter_1 : decode b_M_isLetter 1 = .ok (.ifCond .lt 15, 3) := by decide +kernel
theorem d_M_isLetter_4 : decode b_M_isLetter 4 = .ok (.iload_n 1, 1) := by decide +kernel
theorem d_M_isLetter_5 : decode b_M_isLetter 5 = .ok (.aload_n 0, 1) := by decide +kernel
theorem d_M_isLetter_6 : decode b_M_isLetter 6 = .ok (.getfield 112, 3) := by decide +kernel
theorem d_M_isLetter_9 : decode b_M_isLetter 9 = .ok (.if_icmp .ge 7, 3) := by decide +kernel
theorem d_M_isLetter_12 : decode b_M_isLetter 12 = .ok (.iconst 1, 1) := by decide +kernel
theorem d_M_isLetter_13 : decode b_M_isLetter 13 = .ok (.goto 4, 3) := by decide +kernel
theorem d_M_isLetter_16 : decode b_M_isLetter 16 = .ok (.iconst 0, 1) := by decide +kernel
theorem d_M_isLetter_17 : decode b_M_isLetter 17 = .ok (.ireturn, 1) := by decide +kernel
theorem d_M_stopAt_0 : decode b_M_stopAt 0 = .ok (.sipush 168, 3) := by decide +kernel
theorem d_M_stopAt_3 : decode b_M_stopAt 3 = .ok (.istore_n 3, 1) := by decide +kernel
theorem d_M_stopAt_4 : decode b_M_stopAt 4 = .ok (.iload_n 3, 1) := by decide +kernel
theorem d_M_stopAt_5 : decode b_M_stopAt 5 = .ok (.sipush 168, 3) := by decide +kernel
theorem d_M_stopAt_8 : decode b_M_stopAt 8 = .ok (.aload_n 0, 1) := by decide +kernel
theorem d_M_stopAt_9 : decode b_M_stopAt 9 = .ok (.getfield 19, 3) := by decide +kernel
theorem d_M_stopAt_12 : decode b_M_stopAt 12 = .ok (.bipush 7, 2) := by decide +kernel
theorem d_M_stopAt_14 : decode b_M_stopAt 14 = .ok (.iaload, 1) := by decide +kernel
theorem d_M_stopAt_15 : decode b_M_stopAt 15 = .ok (.iadd, 1) := by decide +kernel
theorem d_M_stopAt_16 : decode b_M_stopAt 16 = .ok (.if_icmp .ge 31, 3) := by decide +kernel
theorem d_M_stopAt_19 : decode b_M_stopAt 19 = .ok (.aload_n 0, 1) := by decide +kernel
theorem d_M_stopAt_20 : decode b_M_stopAt 20 = .ok (.getfield 7, 3) := by decide +kernel
theorem d_M_stopAt_23 : decode b_M_stopAt 23 = .ok (.iload_n 3, 1) := by decide +kernel
theorem d_M_stopAt_24 : decode b_M_stopAt 24 = .ok (.iaload, 1) := by decide +kernel
theorem d_M_stopAt_25 : decode b_M_stopAt 25 = .ok (.iload_n 1, 1) := by decide +kernel
theorem d_M_stopAt_26 : decode b_M_stopAt 26 = .ok (.if_icmp .ne 15, 3) := by decide +kernel
theorem d_M_stopAt_29 : decode b_M_stopAt 29 = .ok (.aload_n 0, 1) := by decide +kernel
theorem d_M_stopAt_30 : decode b_M_stopAt 30 = .ok (.getfield 16, 3) := by decide +kernel
theorem d_M_stopAt_33 : decode b_M_stopAt 33 = .ok (.iload_n 3, 1) := by decide +kernel
theorem d_M_stopAt_34 : decode b_M_stopAt 34 = .ok (.iaload, 1) := by decide +kernel
theorem d_M_stopAt_35 : decode b_M_stopAt 35 = .ok (.iload_n 2, 1) := by decide +kernel
theorem d_M_stopAt_36 : decode b_M_stopAt 36 = .ok (.if_icmp .ne 5, 3) := by decide +kernel
theorem d_M_stopAt_39 : decode b_M_stopAt 39 = .ok (.iload_n 3, 1) := by decide +kernel
theorem d_M_stopAt_40 : decode b_M_stopAt 40 = .ok (.ireturn, 1) := by decide +kernel
theorem d_M_stopAt_41 : decode b_M_stopAt 41 = .ok (.iinc 3 1, 3) := by decide +kernel
theorem d_M_stopAt_44 : decode b_M_stopAt 44 = .ok (.goto (-40), 3) := by decide +kernel
theorem d_M_stopAt_47 : decode b_M_stopAt 47 = .ok (.iconst (-1), 1) := by decide +kernel
theorem d_M_stopAt_48 : decode b_M_stopAt 48 = .ok (.ireturn, 1) := by decide +kernel
theorem d_M_copyStop_0 : decode b_M_copyStop 0 = .ok (.aload_n 0, 1) := by decide +kernel
theorem d_M_copyStop_1 : decode b_M_copyStop 1 = .ok (.getfield 7, 3) := by decide +kernel
theorem d_M_copyStop_4 : decode b_M_copyStop 4 = .ok (.iload_n 2, 1) := by decide +kernel
theorem d_M_copyStop_5 : decode b_M_copyStop 5 = .ok (.aload_n 0, 1) := by decide +kernel
theorem d_M_copyStop_6 : decode b_M_copyStop 6 = .ok (.getfield 7, 3) := by decide +kernel
theorem d_M_copyStop_9 : decode b_M_copyStop 9 = .ok (.iload_n 1, 1) := by decide +kernel
theorem d_M_copyStop_10 : decode b_M_copyStop 10 = .ok (.iaload, 1) := by decide +kernel
theorem d_M_copyStop_11 : decode b_M_copyStop 11 = .ok (.iastore, 1) := by decide +kernel
theorem d_M_copyStop_12 : decode b_M_copyStop 12 = .ok (.aload_n 0, 1) := by decide +kernel
theorem d_M_copyStop_13 : decode b_M_copyStop 13 = .ok (.getfield 13, 3) := by decide +kernel
theorem d_M_copyStop_16 : decode b_M_copyStop 16 = .ok (.iload_n 2, 1) := by decide +kernel
theorem d_M_copyStop_17 : decode b_M_copyStop 17 = .ok (.aload_n 0, 1) := by decide +kernel
theorem d_M_copyStop_18 : decode b_M_copyStop 18 = .ok (.getfield 13, 3) := by decide +kernel
theorem d_M_copyStop_21 : decode b_M_copyStop 21 = .ok (.iload_n 1, 1) := by decide +kernel
theorem d_M_copyStop_22 : decode b_M_copyStop 22 = .ok (.iaload, 1) := by decide +kernel
theorem d_M_copyStop_23 : decode b_M_copyStop 23 = .ok (.iastore, 1) := by decide +kernel
theorem d_M_copyStop_24 : decode b_M_copyStop 24 = .ok (.aload_n 0, 1) := by decide +kernel
theorem d_M_copyStop_25 : decode b_M_copyStop 25 = .ok (.getfield 16, 3) := by decide +kernel
theorem d_M_copyStop_28 : decode b_M_copyStop 28 = .ok (.iload_n 2, 1) := by decide +kernel
theorem d_M_copyStop_29 : decode b_M_copyStop 29 = .ok (.aload_n 0, 1) := by decide +kernel
theorem d_M_copyStop_30 : decode b_M_copyStop 30 = .ok (.getfield 16, 3) := by decide +kernel
theorem d_M_copyStop_33 : decode b_M_copyStop 33 = .ok (.iload_n 1, 1) := by decide +kernel
theorem d_M_copyStop_34 : decode b_M_copyStop 34 = .ok (.iaload, 1) := by decide +kernel
theorem d_M_copyStop_35 : decode b_M_copyStop 35 = .ok (.iastore, 1) := by decide +kernel
theorem d_M_copyStop_36 : decode b_M_copyStop 36 = .ok (.return_, 1) := by decide +kernel
theorem d_M_stop_0 : decode b_M_stop 0 = .ok (.iload_n 1, 1) := by decide +kernel
theorem d_M_stop_1 : decode b_M_stop 1 = .ok (.invokestatic 115, 3) := by decide +kernel
theorem d_M_stop_4 : decode b_M_stop 4 = .ok (.ifCond .eq 24, 3) := by decide +kernel
theorem d_M_stop_7 : decode b_M_stop 7 = .ok (.iload_n 2, 1) := by decide +kernel
theorem d_M_stop_8 : decode b_M_stop 8 = .ok (.invokestatic 119, 3) := by decide +kernel
theorem d_M_stop_11 : decode b_M_stop 11 = .ok (.ifCond .eq 17, 3) := by decide +kernel
theorem d_M_stop_14 : decode b_M_stop 14 = .ok (.iload_n 3, 1) := by decide +kernel
theorem d_M_stop_15 : decode b_M_stop 15 = .ok (.sipush 10079, 3) := by decide +kernel
theorem d_M_stop_18 : decode b_M_stop 18 = .ok (.invokestatic 108, 3) := by decide +kernel
theorem d_M_stop_21 : decode b_M_stop 21 = .ok (.ifCond .eq 7, 3) := by decide +kernel
theorem d_M_stop_24 : decode b_M_stop 24 = .ok (.iconst 1, 1) := by decide +kernel
theorem d_M_stop_25 : decode b_M_stop 25 = .ok (.goto 4, 3) := by decide +kernel
theorem d_M_stop_28 : decode b_M_stop 28 = .ok (.iconst 0, 1) := by decide +kernel
theorem d_M_stop_29 : decode b_M_stop 29 = .ok (.istore 4, 2) := by decide +kernel
theorem d_M_stop_31 : decode b_M_stop 31 = .ok (.aload_n 0, 1) := by decide +kernel
theorem d_M_stop_32 : decode b_M_stop 32 = .ok (.iload 4, 2) := by decide +kernel
theorem d_M_stop_34 : decode b_M_stop 34 = .ok (.ifCond .ne 7, 3) := by decide +kernel
theorem d_M_stop_37 : decode b_M_stop 37 = .ok (.iconst 1, 1) := by decide +kernel
theorem d_M_stop_38 : decode b_M_stop 38 = .ok (.goto 29, 3) := by decide +kernel
theorem d_M_stop_41 : decode b_M_stop 41 = .ok (.aload_n 0, 1) := by decide +kernel
theorem d_M_stop_42 : decode b_M_stop 42 = .ok (.iload_n 1, 1) := by decide +kernel
theorem d_M_stop_43 : decode b_M_stop 43 = .ok (.iload_n 3, 1) := by decide +kernel
theorem d_M_stop_44 : decode b_M_stop 44 = .ok (.invokevirtual 122, 3) := by decide +kernel
theorem d_M_stop_47 : decode b_M_stop 47 = .ok (.ifCond .ge 15, 3) := by decide +kernel
theorem d_M_stop_50 : decode b_M_stop 50 = .ok (.aload_n 0, 1) := by decide +kernel
theorem d_M_stop_51 : decode b_M_stop 51 = .ok (.getfield 19, 3) := by decide +kernel
theorem d_M_stop_54 : decode b_M_stop 54 = .ok (.bipush 7, 2) := by decide +kernel
theorem d_M_stop_56 : decode b_M_stop 56 = .ok (.iaload, 1) := by decide +kernel
theorem d_M_stop_57 : decode b_M_stop 57 = .ok (.bipush 24, 2) := by decide +kernel
theorem d_M_stop_59 : decode b_M_stop 59 = .ok (.if_icmp .ne 7, 3) := by decide +kernel
theorem d_M_stop_62 : decode b_M_stop 62 = .ok (.iconst 2, 1) := by decide +kernel
theorem d_M_stop_63 : decode b_M_stop 63 = .ok (.goto 4, 3) := by decide +kernel
theorem d_M_stop_66 : decode b_M_stop 66 = .ok (.iconst 0, 1) := by decide +kernel
theorem d_M_stop_67 : decode b_M_stop 67 = .ok (.putfield 104, 3) := by decide +kernel
theorem d_M_stop_70 : decode b_M_stop 70 = .ok (.aload_n 0, 1) := by decide +kernel
theorem d_M_stop_71 : decode b_M_stop 71 = .ok (.getfield 104, 3) := by decide +kernel
theorem d_M_stop_74 : decode b_M_stop 74 = .ok (.ifCond .eq 5, 3) := by decide +kernel
theorem d_M_stop_77 : decode b_M_stop 77 = .ok (.iconst 0, 1) := by decide +kernel
theorem d_M_stop_78 : decode b_M_stop 78 = .ok (.ireturn, 1) := by decide +kernel
theorem d_M_stop_79 : decode b_M_stop 79 = .ok (.sipush 168, 3) := by decide +kernel
theorem d_M_stop_82 : decode b_M_stop 82 = .ok (.aload_n 0, 1) := by decide +kernel
theorem d_M_stop_83 : decode b_M_stop 83 = .ok (.getfield 19, 3) := by decide +kernel
theorem d_M_stop_86 : decode b_M_stop 86 = .ok (.bipush 7, 2) := by decide +kernel
theorem d_M_stop_88 : decode b_M_stop 88 = .ok (.iaload, 1) := by decide +kernel
theorem d_M_stop_89 : decode b_M_stop 89 = .ok (.iadd, 1) := by decide +kernel
theorem d_M_stop_90 : decode b_M_stop 90 = .ok (.istore 5, 2) := by decide +kernel
theorem d_M_stop_92 : decode b_M_stop 92 = .ok (.aload_n 0, 1) := by decide +kernel
theorem d_M_stop_93 : decode b_M_stop 93 = .ok (.getfield 7, 3) := by decide +kernel
theorem d_M_stop_96 : decode b_M_stop 96 = .ok (.iload 5, 2) := by decide +kernel
theorem d_M_stop_98 : decode b_M_stop 98 = .ok (.iload_n 1, 1) := by decide +kernel
theorem d_M_stop_99 : decode b_M_stop 99 = .ok (.iastore, 1) := by decide +kernel
theorem d_M_stop_100 : decode b_M_stop 100 = .ok (.aload_n 0, 1) := by decide +kernel
theorem d_M_stop_101 : decode b_M_stop 101 = .ok (.getfield 13, 3) := by decide +kernel
theorem d_M_stop_104 : decode b_M_stop 104 = .ok (.iload 5, 2) := by decide +kernel
theorem d_M_stop_106 : decode b_M_stop 106 = .ok (.iload_n 2, 1) := by decide +kernel
theorem d_M_stop_107 : decode b_M_stop 107 = .ok (.iastore, 1) := by decide +kernel
theorem d_M_stop_108 : decode b_M_stop 108 = .ok (.aload_n 0, 1) := by decide +kernel
theorem d_M_stop_109 : decode b_M_stop 109 = .ok (.getfield 16, 3) := by decide +kernel
theorem d_M_stop_112 : decode b_M_stop 112 = .ok (.iload 5, 2) := by decide +kernel
theorem d_M_stop_114 : decode b_M_stop 114 = .ok (.iload_n 3, 1) := by decide +kernel
theorem d_M_stop_115 : decode b_M_stop 115 = .ok (.iastore, 1) := by decide +kernel
theorem d_M_stop_116 : decode b_M_stop 116 = .ok (.aload_n 0, 1) := by decide +kernel
theorem d_M_stop_117 : decode b_M_stop 117 = .ok (.getfield 19, 3) := by decide +kernel
theorem d_M_stop_120 : decode b_M_stop 120 = .ok (.bipush 7, 2) := by decide +kernel
theorem d_M_stop_122 : decode b_M_stop 122 = .ok (.dup2, 1) := by decide +kernel
theorem d_M_stop_123 : decode b_M_stop 123 = .ok (.iaload, 1) := by decide +kernel
theorem d_M_stop_124 : decode b_M_stop 124 = .ok (.iconst 1, 1) := by decide +kernel
theorem d_M_stop_125 : decode b_M_stop 125 = .ok (.iadd, 1) := by decide +kernel
theorem d_M_stop_126 : decode b_M_stop 126 = .ok (.iastore, 1) := by decide +kernel
theorem d_M_stop_127 : decode b_M_stop 127 = .ok (.aload_n 0, 1) := by decide +kernel
theorem d_M_stop_128 : decode b_M_stop 128 = .ok (.getfield 19, 3) := by decide +kernel
theorem d_M_stop_131 : decode b_M_stop 131 = .ok (.bipush 7, 2) := by decide +kernel
theorem d_M_stop_133 : decode b_M_stop 133 = .ok (.iaload, 1) := by decide +kernel
theorem d_M_stop_134 : decode b_M_stop 134 = .ok (.ireturn, 1) := by decide +kernel
theorem d_M_cancel_0 : decode b_M_cancel 0 = .ok (.aload_n 0, 1) := by decide +kernel
theorem d_M_cancel_1 : decode b_M_cancel 1 = .ok (.iconst 0, 1) := by decide +kernel
theorem d_M_cancel_2 : decode b_M_cancel 2 = .ok (.putfield 104, 3) := by decide +kernel
theorem d_M_cancel_5 : decode b_M_cancel 5 = .ok (.aload_n 0, 1) := by decide +kernel
theorem d_M_cancel_6 : decode b_M_cancel 6 = .ok (.iload_n 1, 1) := by decide +kernel
theorem d_M_cancel_7 : decode b_M_cancel 7 = .ok (.iload_n 2, 1) := by decide +kernel
theorem d_M_cancel_8 : decode b_M_cancel 8 = .ok (.invokevirtual 122, 3) := by decide +kernel
theorem d_M_cancel_11 : decode b_M_cancel 11 = .ok (.istore_n 3, 1) := by decide +kernel
theorem d_M_cancel_12 : decode b_M_cancel 12 = .ok (.iload_n 3, 1) := by decide +kernel
theorem d_M_cancel_13 : decode b_M_cancel 13 = .ok (.ifCond .ge 5, 3) := by decide +kernel
theorem d_M_cancel_16 : decode b_M_cancel 16 = .ok (.iconst 0, 1) := by decide +kernel
theorem d_M_cancel_17 : decode b_M_cancel 17 = .ok (.ireturn, 1) := by decide +kernel
theorem d_M_cancel_18 : decode b_M_cancel 18 = .ok (.aload_n 0, 1) := by decide +kernel
theorem d_M_cancel_19 : decode b_M_cancel 19 = .ok (.getfield 19, 3) := by decide +kernel
theorem d_M_cancel_22 : decode b_M_cancel 22 = .ok (.bipush 7, 2) := by decide +kernel
theorem d_M_cancel_24 : decode b_M_cancel 24 = .ok (.dup2, 1) := by decide +kernel
theorem d_M_cancel_25 : decode b_M_cancel 25 = .ok (.iaload, 1) := by decide +kernel
theorem d_M_cancel_26 : decode b_M_cancel 26 = .ok (.iconst 1, 1) := by decide +kernel
theorem d_M_cancel_27 : decode b_M_cancel 27 = .ok (.isub, 1) := by decide +kernel
theorem d_M_cancel_28 : decode b_M_cancel 28 = .ok (.iastore, 1) := by decide +kernel
theorem d_M_cancel_29 : decode b_M_cancel 29 = .ok (.aload_n 0, 1) := by decide +kernel
theorem d_M_cancel_30 : decode b_M_cancel 30 = .ok (.sipush 168, 3) := by decide +kernel
theorem d_M_cancel_33 : decode b_M_cancel 33 = .ok (.aload_n 0, 1) := by decide +kernel
theorem d_M_cancel_34 : decode b_M_cancel 34 = .ok (.getfield 19, 3) := by decide +kernel
theorem d_M_cancel_37 : decode b_M_cancel 37 = .ok (.bipush 7, 2) := by decide +kernel
theorem d_M_cancel_39 : decode b_M_cancel 39 = .ok (.iaload, 1) := by decide +kernel
theorem d_M_cancel_40 : decode b_M_cancel 40 = .ok (.iadd, 1) := by decide +kernel
theorem d_M_cancel_41 : decode b_M_cancel 41 = .ok (.iload_n 3, 1) := by decide +kernel
theorem d_M_cancel_42 : decode b_M_cancel 42 = .ok (.invokevirtual 126, 3) := by decide +kernel
theorem d_M_cancel_45 : decode b_M_cancel 45 = .ok (.iconst 1, 1) := by decide +kernel
theorem d_M_cancel_46 : decode b_M_cancel 46 = .ok (.ireturn, 1) := by decide +kernel
theorem d_M_publish_0 : decode b_M_publish 0 = .ok (.aload_n 0, 1) := by decide +kernel
theorem d_M_publish_1 : decode b_M_publish 1 = .ok (.aload_n 0, 1) := by decide +kernel
theorem d_M_publish_2 : decode b_M_publish 2 = .ok (.getfield 130, 3) := by decide +kernel
theorem d_M_publish_5 : decode b_M_publish 5 = .ok (.bipush 6, 2) := by decide +kernel
theorem d_M_publish_7 : decode b_M_publish 7 = .ok (.if_icmp .ne 7, 3) := by decide +kernel
theorem d_M_publish_10 : decode b_M_publish 10 = .ok (.iconst 2, 1) := by decide +kernel
theorem d_M_publish_11 : decode b_M_publish 11 = .ok (.goto 4, 3) := by decide +kernel
theorem d_M_publish_14 : decode b_M_publish 14 = .ok (.iconst 0, 1) := by decide +kernel
theorem d_M_publish_15 : decode b_M_publish 15 = .ok (.putfield 104, 3) := by decide +kernel
theorem d_M_publish_18 : decode b_M_publish 18 = .ok (.aload_n 0, 1) := by decide +kernel
theorem d_M_publish_19 : decode b_M_publish 19 = .ok (.getfield 104, 3) := by decide +kernel
theorem d_M_publish_22 : decode b_M_publish 22 = .ok (.ifCond .eq 10, 3) := by decide +kernel
theorem d_M_publish_25 : decode b_M_publish 25 = .ok (.aload_n 0, 1) := by decide +kernel
theorem d_M_publish_26 : decode b_M_publish 26 = .ok (.iconst 1, 1) := by decide +kernel
theorem d_M_publish_27 : decode b_M_publish 27 = .ok (.putfield 104, 3) := by decide +kernel
theorem d_M_publish_30 : decode b_M_publish 30 = .ok (.iconst 0, 1) := by decide +kernel
theorem d_M_publish_31 : decode b_M_publish 31 = .ok (.ireturn, 1) := by decide +kernel
theorem d_M_publish_32 : decode b_M_publish 32 = .ok (.aload_n 0, 1) := by decide +kernel
theorem d_M_publish_33 : decode b_M_publish 33 = .ok (.dup, 1) := by decide +kernel
theorem d_M_publish_34 : decode b_M_publish 34 = .ok (.getfield 130, 3) := by decide +kernel
theorem d_M_publish_37 : decode b_M_publish 37 = .ok (.iconst 1, 1) := by decide +kernel
theorem d_M_publish_38 : decode b_M_publish 38 = .ok (.iadd, 1) := by decide +kernel
theorem d_M_publish_39 : decode b_M_publish 39 = .ok (.putfield 130, 3) := by decide +kernel
theorem d_M_publish_42 : decode b_M_publish 42 = .ok (.aload_n 0, 1) := by decide +kernel
theorem d_M_publish_43 : decode b_M_publish 43 = .ok (.getfield 19, 3) := by decide +kernel
theorem d_M_publish_46 : decode b_M_publish 46 = .ok (.aload_n 0, 1) := by decide +kernel
theorem d_M_publish_47 : decode b_M_publish 47 = .ok (.getfield 130, 3) := by decide +kernel
theorem d_M_publish_50 : decode b_M_publish 50 = .ok (.aload_n 0, 1) := by decide +kernel
theorem d_M_publish_51 : decode b_M_publish 51 = .ok (.getfield 19, 3) := by decide +kernel
theorem d_M_publish_54 : decode b_M_publish 54 = .ok (.bipush 7, 2) := by decide +kernel
theorem d_M_publish_56 : decode b_M_publish 56 = .ok (.iaload, 1) := by decide +kernel
theorem d_M_publish_57 : decode b_M_publish 57 = .ok (.iastore, 1) := by decide +kernel
theorem d_M_publish_58 : decode b_M_publish 58 = .ok (.iconst 0, 1) := by decide +kernel
theorem d_M_publish_59 : decode b_M_publish 59 = .ok (.istore_n 1, 1) := by decide +kernel
theorem d_M_publish_60 : decode b_M_publish 60 = .ok (.iload_n 1, 1) := by decide +kernel
theorem d_M_publish_61 : decode b_M_publish 61 = .ok (.aload_n 0, 1) := by decide +kernel
theorem d_M_publish_62 : decode b_M_publish 62 = .ok (.getfield 19, 3) := by decide +kernel
theorem d_M_publish_65 : decode b_M_publish 65 = .ok (.bipush 7, 2) := by decide +kernel
theorem d_M_publish_67 : decode b_M_publish 67 = .ok (.iaload, 1) := by decide +kernel
theorem d_M_publish_68 : decode b_M_publish 68 = .ok (.if_icmp .ge 27, 3) := by decide +kernel
theorem d_M_publish_71 : decode b_M_publish 71 = .ok (.aload_n 0, 1) := by decide +kernel
theorem d_M_publish_72 : decode b_M_publish 72 = .ok (.sipush 168, 3) := by decide +kernel
theorem d_M_publish_75 : decode b_M_publish 75 = .ok (.iload_n 1, 1) := by decide +kernel
theorem d_M_publish_76 : decode b_M_publish 76 = .ok (.iadd, 1) := by decide +kernel
theorem d_M_publish_77 : decode b_M_publish 77 = .ok (.bipush 24, 2) := by decide +kernel
theorem d_M_publish_79 : decode b_M_publish 79 = .ok (.aload_n 0, 1) := by decide +kernel
theorem d_M_publish_80 : decode b_M_publish 80 = .ok (.getfield 130, 3) := by decide +kernel
theorem d_M_publish_83 : decode b_M_publish 83 = .ok (.imul, 1) := by decide +kernel
theorem d_M_publish_84 : decode b_M_publish 84 = .ok (.iload_n 1, 1) := by decide +kernel
theorem d_M_publish_85 : decode b_M_publish 85 = .ok (.iadd, 1) := by decide +kernel
theorem d_M_publish_86 : decode b_M_publish 86 = .ok (.invokevirtual 126, 3) := by decide +kernel
theorem d_M_publish_89 : decode b_M_publish 89 = .ok (.iinc 1 1, 3) := by decide +kernel
theorem d_M_publish_92 : decode b_M_publish 92 = .ok (.goto (-32), 3) := by decide +kernel
theorem d_M_publish_95 : decode b_M_publish 95 = .ok (.aload_n 0, 1) := by decide +kernel
theorem d_M_publish_96 : decode b_M_publish 96 = .ok (.getfield 22, 3) := by decide +kernel
theorem d_M_publish_99 : decode b_M_publish 99 = .ok (.iconst 0, 1) := by decide +kernel
theorem d_M_publish_100 : decode b_M_publish 100 = .ok (.aload_n 0, 1) := by decide +kernel
theorem d_M_publish_101 : decode b_M_publish 101 = .ok (.getfield 130, 3) := by decide +kernel
theorem d_M_publish_104 : decode b_M_publish 104 = .ok (.iastore, 1) := by decide +kernel
theorem d_M_publish_105 : decode b_M_publish 105 = .ok (.aload_n 0, 1) := by decide +kernel
theorem d_M_publish_106 : decode b_M_publish 106 = .ok (.getfield 130, 3) := by decide +kernel
theorem d_M_publish_109 : decode b_M_publish 109 = .ok (.ireturn, 1) := by decide +kernel
theorem d_M_nextStop_0 : decode b_M_nextStop 0 = .ok (.ldc 133, 2) := by decide +kernel
theorem d_M_nextStop_2 : decode b_M_nextStop 2 = .ok (.istore_n 3, 1) := by decide +kernel
theorem d_M_nextStop_3 : decode b_M_nextStop 3 = .ok (.bipush 24, 2) := by decide +kernel
theorem d_M_nextStop_5 : decode b_M_nextStop 5 = .ok (.iload_n 1, 1) := by decide +kernel
theorem d_M_nextStop_6 : decode b_M_nextStop 6 = .ok (.imul, 1) := by decide +kernel
theorem d_M_nextStop_7 : decode b_M_nextStop 7 = .ok (.istore 4, 2) := by decide +kernel
theorem d_M_nextStop_9 : decode b_M_nextStop 9 = .ok (.iload 4, 2) := by decide +kernel
theorem d_M_nextStop_11 : decode b_M_nextStop 11 = .ok (.bipush 24, 2) := by decide +kernel
theorem d_M_nextStop_13 : decode b_M_nextStop 13 = .ok (.iload_n 1, 1) := by decide +kernel
theorem d_M_nextStop_14 : decode b_M_nextStop 14 = .ok (.imul, 1) := by decide +kernel
theorem d_M_nextStop_15 : decode b_M_nextStop 15 = .ok (.aload_n 0, 1) := by decide +kernel
theorem d_M_nextStop_16 : decode b_M_nextStop 16 = .ok (.getfield 19, 3) := by decide +kernel
theorem d_M_nextStop_19 : decode b_M_nextStop 19 = .ok (.iload_n 1, 1) := by decide +kernel
theorem d_M_nextStop_20 : decode b_M_nextStop 20 = .ok (.iaload, 1) := by decide +kernel
theorem d_M_nextStop_21 : decode b_M_nextStop 21 = .ok (.iadd, 1) := by decide +kernel
theorem d_M_nextStop_22 : decode b_M_nextStop 22 = .ok (.if_icmp .ge 45, 3) := by decide +kernel
theorem d_M_nextStop_25 : decode b_M_nextStop 25 = .ok (.aload_n 0, 1) := by decide +kernel
theorem d_M_nextStop_26 : decode b_M_nextStop 26 = .ok (.getfield 16, 3) := by decide +kernel
theorem d_M_nextStop_29 : decode b_M_nextStop 29 = .ok (.iload 4, 2) := by decide +kernel
theorem d_M_nextStop_31 : decode b_M_nextStop 31 = .ok (.iaload, 1) := by decide +kernel
theorem d_M_nextStop_32 : decode b_M_nextStop 32 = .ok (.iload_n 2, 1) := by decide +kernel
theorem d_M_nextStop_33 : decode b_M_nextStop 33 = .ok (.sipush 10080, 3) := by decide +kernel
theorem d_M_nextStop_36 : decode b_M_nextStop 36 = .ok (.irem, 1) := by decide +kernel
theorem d_M_nextStop_37 : decode b_M_nextStop 37 = .ok (.isub, 1) := by decide +kernel
theorem d_M_nextStop_38 : decode b_M_nextStop 38 = .ok (.sipush 10080, 3) := by decide +kernel
theorem d_M_nextStop_41 : decode b_M_nextStop 41 = .ok (.iadd, 1) := by decide +kernel
theorem d_M_nextStop_42 : decode b_M_nextStop 42 = .ok (.sipush 10080, 3) := by decide +kernel
theorem d_M_nextStop_45 : decode b_M_nextStop 45 = .ok (.irem, 1) := by decide +kernel
theorem d_M_nextStop_46 : decode b_M_nextStop 46 = .ok (.istore 5, 2) := by decide +kernel
theorem d_M_nextStop_48 : decode b_M_nextStop 48 = .ok (.iload_n 2, 1) := by decide +kernel
theorem d_M_nextStop_49 : decode b_M_nextStop 49 = .ok (.iload 5, 2) := by decide +kernel
theorem d_M_nextStop_51 : decode b_M_nextStop 51 = .ok (.iadd, 1) := by decide +kernel
theorem d_M_nextStop_52 : decode b_M_nextStop 52 = .ok (.iload_n 3, 1) := by decide +kernel
theorem d_M_nextStop_53 : decode b_M_nextStop 53 = .ok (.if_icmp .ge 8, 3) := by decide +kernel
theorem d_M_nextStop_56 : decode b_M_nextStop 56 = .ok (.iload_n 2, 1) := by decide +kernel
theorem d_M_nextStop_57 : decode b_M_nextStop 57 = .ok (.iload 5, 2) := by decide +kernel
theorem d_M_nextStop_59 : decode b_M_nextStop 59 = .ok (.iadd, 1) := by decide +kernel
theorem d_M_nextStop_60 : decode b_M_nextStop 60 = .ok (.istore_n 3, 1) := by decide +kernel
theorem d_M_nextStop_61 : decode b_M_nextStop 61 = .ok (.iinc 4 1, 3) := by decide +kernel
theorem d_M_nextStop_64 : decode b_M_nextStop 64 = .ok (.goto (-55), 3) := by decide +kernel
theorem d_M_nextStop_67 : decode b_M_nextStop 67 = .ok (.iload_n 3, 1) := by decide +kernel
theorem d_M_nextStop_68 : decode b_M_nextStop 68 = .ok (.ireturn, 1) := by decide +kernel
theorem d_M_passes_0 : decode b_M_passes 0 = .ok (.iconst 0, 1) := by decide +kernel
theorem d_M_passes_1 : decode b_M_passes 1 = .ok (.istore 4, 2) := by decide +kernel
theorem d_M_passes_3 : decode b_M_passes 3 = .ok (.bipush 24, 2) := by decide +kernel
theorem d_M_passes_5 : decode b_M_passes 5 = .ok (.iload_n 1, 1) := by decide +kernel
theorem d_M_passes_6 : decode b_M_passes 6 = .ok (.imul, 1) := by decide +kernel
theorem d_M_passes_7 : decode b_M_passes 7 = .ok (.istore 5, 2) := by decide +kernel
theorem d_M_passes_9 : decode b_M_passes 9 = .ok (.iload 5, 2) := by decide +kernel
theorem d_M_passes_11 : decode b_M_passes 11 = .ok (.bipush 24, 2) := by decide +kernel
theorem d_M_passes_13 : decode b_M_passes 13 = .ok (.iload_n 1, 1) := by decide +kernel
theorem d_M_passes_14 : decode b_M_passes 14 = .ok (.imul, 1) := by decide +kernel
theorem d_M_passes_15 : decode b_M_passes 15 = .ok (.aload_n 0, 1) := by decide +kernel
theorem d_M_passes_16 : decode b_M_passes 16 = .ok (.getfield 19, 3) := by decide +kernel
theorem d_M_passes_19 : decode b_M_passes 19 = .ok (.iload_n 1, 1) := by decide +kernel
theorem d_M_passes_20 : decode b_M_passes 20 = .ok (.iaload, 1) := by decide +kernel
theorem d_M_passes_21 : decode b_M_passes 21 = .ok (.iadd, 1) := by decide +kernel
theorem d_M_passes_22 : decode b_M_passes 22 = .ok (.if_icmp .ge 109, 3) := by decide +kernel
theorem d_M_passes_25 : decode b_M_passes 25 = .ok (.aload_n 0, 1) := by decide +kernel
theorem d_M_passes_26 : decode b_M_passes 26 = .ok (.getfield 16, 3) := by decide +kernel
theorem d_M_passes_29 : decode b_M_passes 29 = .ok (.iload 5, 2) := by decide +kernel
theorem d_M_passes_31 : decode b_M_passes 31 = .ok (.iaload, 1) := by decide +kernel
theorem d_M_passes_32 : decode b_M_passes 32 = .ok (.iload_n 2, 1) := by decide +kernel
theorem d_M_passes_33 : decode b_M_passes 33 = .ok (.sipush 10080, 3) := by decide +kernel
theorem d_M_passes_36 : decode b_M_passes 36 = .ok (.irem, 1) := by decide +kernel
theorem d_M_passes_37 : decode b_M_passes 37 = .ok (.if_icmp .ne 88, 3) := by decide +kernel
theorem d_M_passes_40 : decode b_M_passes 40 = .ok (.aload_n 0, 1) := by decide +kernel
theorem d_M_passes_41 : decode b_M_passes 41 = .ok (.getfield 7, 3) := by decide +kernel
theorem d_M_passes_44 : decode b_M_passes 44 = .ok (.iload 5, 2) := by decide +kernel
theorem d_M_passes_46 : decode b_M_passes 46 = .ok (.iaload, 1) := by decide +kernel
theorem d_M_passes_47 : decode b_M_passes 47 = .ok (.bipush 8, 2) := by decide +kernel
theorem d_M_passes_49 : decode b_M_passes 49 = .ok (.isub, 1) := by decide +kernel
theorem d_M_passes_50 : decode b_M_passes 50 = .ok (.istore 6, 2) := by decide +kernel
theorem d_M_passes_52 : decode b_M_passes 52 = .ok (.aload_n 0, 1) := by decide +kernel
theorem d_M_passes_53 : decode b_M_passes 53 = .ok (.getfield 13, 3) := by decide +kernel
theorem d_M_passes_56 : decode b_M_passes 56 = .ok (.iload 5, 2) := by decide +kernel
theorem d_M_passes_58 : decode b_M_passes 58 = .ok (.iaload, 1) := by decide +kernel
theorem d_M_passes_59 : decode b_M_passes 59 = .ok (.istore 7, 2) := by decide +kernel
theorem d_M_passes_61 : decode b_M_passes 61 = .ok (.aload_n 0, 1) := by decide +kernel
theorem d_M_passes_62 : decode b_M_passes 62 = .ok (.getfield 92, 3) := by decide +kernel
theorem d_M_passes_65 : decode b_M_passes 65 = .ok (.iload 6, 2) := by decide +kernel
theorem d_M_passes_67 : decode b_M_passes 67 = .ok (.baload, 1) := by decide +kernel
theorem d_M_passes_68 : decode b_M_passes 68 = .ok (.ifCond .eq 38, 3) := by decide +kernel
theorem d_M_passes_71 : decode b_M_passes 71 = .ok (.iload 7, 2) := by decide +kernel
theorem d_M_passes_73 : decode b_M_passes 73 = .ok (.iload_n 3, 1) := by decide +kernel
theorem d_M_passes_74 : decode b_M_passes 74 = .ok (.if_icmp .ne 6, 3) := by decide +kernel
theorem d_M_passes_77 : decode b_M_passes 77 = .ok (.iconst 1, 1) := by decide +kernel
theorem d_M_passes_78 : decode b_M_passes 78 = .ok (.istore 4, 2) := by decide +kernel
theorem d_M_passes_80 : decode b_M_passes 80 = .ok (.aload_n 0, 1) := by decide +kernel
theorem d_M_passes_81 : decode b_M_passes 81 = .ok (.getfield 95, 3) := by decide +kernel
theorem d_M_passes_84 : decode b_M_passes 84 = .ok (.iload 7, 2) := by decide +kernel
theorem d_M_passes_86 : decode b_M_passes 86 = .ok (.iaload, 1) := by decide +kernel
theorem d_M_passes_87 : decode b_M_passes 87 = .ok (.iload_n 2, 1) := by decide +kernel
theorem d_M_passes_88 : decode b_M_passes 88 = .ok (.iconst 1, 1) := by decide +kernel
theorem d_M_passes_89 : decode b_M_passes 89 = .ok (.iadd, 1) := by decide +kernel
theorem d_M_passes_90 : decode b_M_passes 90 = .ok (.if_icmp .le 35, 3) := by decide +kernel
theorem d_M_passes_93 : decode b_M_passes 93 = .ok (.aload_n 0, 1) := by decide +kernel
theorem d_M_passes_94 : decode b_M_passes 94 = .ok (.getfield 95, 3) := by decide +kernel
theorem d_M_passes_97 : decode b_M_passes 97 = .ok (.iload 7, 2) := by decide +kernel
theorem d_M_passes_99 : decode b_M_passes 99 = .ok (.iload_n 2, 1) := by decide +kernel
theorem d_M_passes_100 : decode b_M_passes 100 = .ok (.iconst 1, 1) := by decide +kernel
theorem d_M_passes_101 : decode b_M_passes 101 = .ok (.iadd, 1) := by decide +kernel
theorem d_M_passes_102 : decode b_M_passes 102 = .ok (.iastore, 1) := by decide +kernel
theorem d_M_passes_103 : decode b_M_passes 103 = .ok (.goto 22, 3) := by decide +kernel
theorem d_M_passes_106 : decode b_M_passes 106 = .ok (.aload_n 0, 1) := by decide +kernel
theorem d_M_passes_107 : decode b_M_passes 107 = .ok (.getfield 95, 3) := by decide +kernel
theorem d_M_passes_110 : decode b_M_passes 110 = .ok (.iload 7, 2) := by decide +kernel
theorem d_M_passes_112 : decode b_M_passes 112 = .ok (.iaload, 1) := by decide +kernel
theorem d_M_passes_113 : decode b_M_passes 113 = .ok (.iload_n 2, 1) := by decide +kernel
theorem d_M_passes_114 : decode b_M_passes 114 = .ok (.if_icmp .gt 11, 3) := by decide +kernel
theorem d_M_passes_117 : decode b_M_passes 117 = .ok (.aload_n 0, 1) := by decide +kernel
theorem d_M_passes_118 : decode b_M_passes 118 = .ok (.getfield 92, 3) := by decide +kernel
theorem d_M_passes_121 : decode b_M_passes 121 = .ok (.iload 6, 2) := by decide +kernel
theorem d_M_passes_123 : decode b_M_passes 123 = .ok (.iconst 1, 1) := by decide +kernel
theorem d_M_passes_124 : decode b_M_passes 124 = .ok (.bastore, 1) := by decide +kernel
theorem d_M_passes_125 : decode b_M_passes 125 = .ok (.iinc 5 1, 3) := by decide +kernel
theorem d_M_passes_128 : decode b_M_passes 128 = .ok (.goto (-119), 3) := by decide +kernel
theorem d_M_passes_131 : decode b_M_passes 131 = .ok (.iload 4, 2) := by decide +kernel
theorem d_M_passes_133 : decode b_M_passes 133 = .ok (.ireturn, 1) := by decide +kernel
theorem d_M_arrival_0 : decode b_M_arrival 0 = .ok (.iload_n 3, 1) := by decide +kernel
theorem d_M_arrival_1 : decode b_M_arrival 1 = .ok (.iload_n 2, 1) := by decide +kernel
theorem d_M_arrival_2 : decode b_M_arrival 2 = .ok (.if_icmp .ne 6, 3) := by decide +kernel
theorem d_M_arrival_5 : decode b_M_arrival 5 = .ok (.iload 4, 2) := by decide +kernel
theorem d_M_arrival_7 : decode b_M_arrival 7 = .ok (.ireturn, 1) := by decide +kernel
theorem d_M_arrival_8 : decode b_M_arrival 8 = .ok (.iconst 0, 1) := by decide +kernel
theorem d_M_arrival_9 : decode b_M_arrival 9 = .ok (.istore 5, 2) := by decide +kernel
theorem d_M_arrival_11 : decode b_M_arrival 11 = .ok (.iload 5, 2) := by decide +kernel
theorem d_M_arrival_13 : decode b_M_arrival 13 = .ok (.bipush 8, 2) := by decide +kernel
theorem d_M_arrival_15 : decode b_M_arrival 15 = .ok (.if_icmp .ge 29, 3) := by decide +kernel
theorem d_M_arrival_18 : decode b_M_arrival 18 = .ok (.aload_n 0, 1) := by decide +kernel
theorem d_M_arrival_19 : decode b_M_arrival 19 = .ok (.getfield 95, 3) := by decide +kernel
theorem d_M_arrival_22 : decode b_M_arrival 22 = .ok (.iload 5, 2) := by decide +kernel
theorem d_M_arrival_24 : decode b_M_arrival 24 = .ok (.iload 5, 2) := by decide +kernel
theorem d_M_arrival_26 : decode b_M_arrival 26 = .ok (.iload_n 3, 1) := by decide +kernel
theorem d_M_arrival_27 : decode b_M_arrival 27 = .ok (.if_icmp .ne 8, 3) := by decide +kernel
theorem d_M_arrival_30 : decode b_M_arrival 30 = .ok (.iload 4, 2) := by decide +kernel
theorem d_M_arrival_32 : decode b_M_arrival 32 = .ok (.goto 5, 3) := by decide +kernel
theorem d_M_arrival_35 : decode b_M_arrival 35 = .ok (.ldc 133, 2) := by decide +kernel
theorem d_M_arrival_37 : decode b_M_arrival 37 = .ok (.iastore, 1) := by decide +kernel
theorem d_M_arrival_38 : decode b_M_arrival 38 = .ok (.iinc 5 1, 3) := by decide +kernel
theorem d_M_arrival_41 : decode b_M_arrival 41 = .ok (.goto (-30), 3) := by decide +kernel
theorem d_M_arrival_44 : decode b_M_arrival 44 = .ok (.iconst 0, 1) := by decide +kernel
theorem d_M_arrival_45 : decode b_M_arrival 45 = .ok (.istore 5, 2) := by decide +kernel
theorem d_M_arrival_47 : decode b_M_arrival 47 = .ok (.iload 5, 2) := by decide +kernel
theorem d_M_arrival_49 : decode b_M_arrival 49 = .ok (.iconst 4, 1) := by decide +kernel
theorem d_M_arrival_50 : decode b_M_arrival 50 = .ok (.if_icmp .ge 30, 3) := by decide +kernel
theorem d_M_arrival_53 : decode b_M_arrival 53 = .ok (.aload_n 0, 1) := by decide +kernel
theorem d_M_arrival_54 : decode b_M_arrival 54 = .ok (.getfield 92, 3) := by decide +kernel
theorem d_M_arrival_57 : decode b_M_arrival 57 = .ok (.iload 5, 2) := by decide +kernel
theorem d_M_arrival_59 : decode b_M_arrival 59 = .ok (.iload 5, 2) := by decide +kernel
theorem d_M_arrival_61 : decode b_M_arrival 61 = .ok (.bipush 8, 2) := by decide +kernel
theorem d_M_arrival_63 : decode b_M_arrival 63 = .ok (.iadd, 1) := by decide +kernel
theorem d_M_arrival_64 : decode b_M_arrival 64 = .ok (.iload_n 3, 1) := by decide +kernel
theorem d_M_arrival_65 : decode b_M_arrival 65 = .ok (.if_icmp .ne 7, 3) := by decide +kernel
theorem d_M_arrival_68 : decode b_M_arrival 68 = .ok (.iconst 1, 1) := by decide +kernel
theorem d_M_arrival_69 : decode b_M_arrival 69 = .ok (.goto 4, 3) := by decide +kernel
theorem d_M_arrival_72 : decode b_M_arrival 72 = .ok (.iconst 0, 1) := by decide +kernel
theorem d_M_arrival_73 : decode b_M_arrival 73 = .ok (.bastore, 1) := by decide +kernel
theorem d_M_arrival_74 : decode b_M_arrival 74 = .ok (.iinc 5 1, 3) := by decide +kernel
theorem d_M_arrival_77 : decode b_M_arrival 77 = .ok (.goto (-30), 3) := by decide +kernel
theorem d_M_arrival_80 : decode b_M_arrival 80 = .ok (.aload_n 0, 1) := by decide +kernel
theorem d_M_arrival_81 : decode b_M_arrival 81 = .ok (.iload_n 1, 1) := by decide +kernel
theorem d_M_arrival_82 : decode b_M_arrival 82 = .ok (.iload_n 3, 1) := by decide +kernel
theorem d_M_arrival_83 : decode b_M_arrival 83 = .ok (.bipush 8, 2) := by decide +kernel
theorem d_M_arrival_85 : decode b_M_arrival 85 = .ok (.if_icmp .ge 8, 3) := by decide +kernel
theorem d_M_arrival_88 : decode b_M_arrival 88 = .ok (.iload 4, 2) := by decide +kernel
theorem d_M_arrival_90 : decode b_M_arrival 90 = .ok (.goto 7, 3) := by decide +kernel
theorem d_M_arrival_93 : decode b_M_arrival 93 = .ok (.iload 4, 2) := by decide +kernel
theorem d_M_arrival_95 : decode b_M_arrival 95 = .ok (.iconst 1, 1) := by decide +kernel
theorem d_M_arrival_96 : decode b_M_arrival 96 = .ok (.iadd, 1) := by decide +kernel
theorem d_M_arrival_97 : decode b_M_arrival 97 = .ok (.invokevirtual 134, 3) := by decide +kernel
theorem d_M_arrival_100 : decode b_M_arrival 100 = .ok (.istore 5, 2) := by decide +kernel
theorem d_M_arrival_102 : decode b_M_arrival 102 = .ok (.iload 5, 2) := by decide +kernel
theorem d_M_arrival_104 : decode b_M_arrival 104 = .ok (.iload 4, 2) := by decide +kernel
theorem d_M_arrival_106 : decode b_M_arrival 106 = .ok (.sipush 20160, 3) := by decide +kernel
theorem d_M_arrival_109 : decode b_M_arrival 109 = .ok (.iadd, 1) := by decide +kernel
theorem d_M_arrival_110 : decode b_M_arrival 110 = .ok (.if_icmp .gt 31, 3) := by decide +kernel
theorem d_M_arrival_113 : decode b_M_arrival 113 = .ok (.aload_n 0, 1) := by decide +kernel
theorem d_M_arrival_114 : decode b_M_arrival 114 = .ok (.iload_n 1, 1) := by decide +kernel
theorem d_M_arrival_115 : decode b_M_arrival 115 = .ok (.iload 5, 2) := by decide +kernel
theorem d_M_arrival_117 : decode b_M_arrival 117 = .ok (.iload_n 2, 1) := by decide +kernel
theorem d_M_arrival_118 : decode b_M_arrival 118 = .ok (.invokevirtual 137, 3) := by decide +kernel
theorem d_M_arrival_121 : decode b_M_arrival 121 = .ok (.ifCond .eq 6, 3) := by decide +kernel
theorem d_M_arrival_124 : decode b_M_arrival 124 = .ok (.iload 5, 2) := by decide +kernel
theorem d_M_arrival_126 : decode b_M_arrival 126 = .ok (.ireturn, 1) := by decide +kernel
theorem d_M_arrival_127 : decode b_M_arrival 127 = .ok (.aload_n 0, 1) := by decide +kernel
theorem d_M_arrival_128 : decode b_M_arrival 128 = .ok (.iload_n 1, 1) := by decide +kernel
theorem d_M_arrival_129 : decode b_M_arrival 129 = .ok (.iload 5, 2) := by decide +kernel
theorem d_M_arrival_131 : decode b_M_arrival 131 = .ok (.iconst 1, 1) := by decide +kernel
theorem d_M_arrival_132 : decode b_M_arrival 132 = .ok (.iadd, 1) := by decide +kernel
theorem d_M_arrival_133 : decode b_M_arrival 133 = .ok (.invokevirtual 134, 3) := by decide +kernel
theorem d_M_arrival_136 : decode b_M_arrival 136 = .ok (.istore 5, 2) := by decide +kernel
theorem d_M_arrival_138 : decode b_M_arrival 138 = .ok (.goto (-36), 3) := by decide +kernel
theorem d_M_arrival_141 : decode b_M_arrival 141 = .ok (.iconst (-1), 1) := by decide +kernel
theorem d_M_arrival_142 : decode b_M_arrival 142 = .ok (.ireturn, 1) := by decide +kernel
theorem d_M_earlier_0 : decode b_M_earlier 0 = .ok (.iload_n 0, 1) := by decide +kernel
theorem d_M_earlier_1 : decode b_M_earlier 1 = .ok (.iconst (-1), 1) := by decide +kernel
theorem d_M_earlier_2 : decode b_M_earlier 2 = .ok (.if_icmp .eq 17, 3) := by decide +kernel
theorem d_M_earlier_5 : decode b_M_earlier 5 = .ok (.iload_n 1, 1) := by decide +kernel
theorem d_M_earlier_6 : decode b_M_earlier 6 = .ok (.iconst (-1), 1) := by decide +kernel
theorem d_M_earlier_7 : decode b_M_earlier 7 = .ok (.if_icmp .eq 8, 3) := by decide +kernel
theorem d_M_earlier_10 : decode b_M_earlier 10 = .ok (.iload_n 0, 1) := by decide +kernel
theorem d_M_earlier_11 : decode b_M_earlier 11 = .ok (.iload_n 1, 1) := by decide +kernel
theorem d_M_earlier_12 : decode b_M_earlier 12 = .ok (.if_icmp .ge 7, 3) := by decide +kernel
theorem d_M_earlier_15 : decode b_M_earlier 15 = .ok (.iconst 1, 1) := by decide +kernel
theorem d_M_earlier_16 : decode b_M_earlier 16 = .ok (.goto 4, 3) := by decide +kernel
theorem d_M_earlier_19 : decode b_M_earlier 19 = .ok (.iconst 0, 1) := by decide +kernel
theorem d_M_earlier_20 : decode b_M_earlier 20 = .ok (.ireturn, 1) := by decide +kernel
theorem d_M_best_0 : decode b_M_best 0 = .ok (.aload_n 0, 1) := by decide +kernel
theorem d_M_best_1 : decode b_M_best 1 = .ok (.iload_n 1, 1) := by decide +kernel
theorem d_M_best_2 : decode b_M_best 2 = .ok (.invokestatic 119, 3) := by decide +kernel
theorem d_M_best_5 : decode b_M_best 5 = .ok (.ifCond .eq 23, 3) := by decide +kernel
theorem d_M_best_8 : decode b_M_best 8 = .ok (.iload_n 2, 1) := by decide +kernel
theorem d_M_best_9 : decode b_M_best 9 = .ok (.invokestatic 119, 3) := by decide +kernel
theorem d_M_best_12 : decode b_M_best 12 = .ok (.ifCond .eq 16, 3) := by decide +kernel
theorem d_M_best_15 : decode b_M_best 15 = .ok (.iload_n 3, 1) := by decide +kernel
theorem d_M_best_16 : decode b_M_best 16 = .ok (.ldc 141, 2) := by decide +kernel
theorem d_M_best_18 : decode b_M_best 18 = .ok (.invokestatic 108, 3) := by decide +kernel
theorem d_M_best_21 : decode b_M_best 21 = .ok (.ifCond .eq 7, 3) := by decide +kernel
theorem d_M_best_24 : decode b_M_best 24 = .ok (.iconst 0, 1) := by decide +kernel
theorem d_M_best_25 : decode b_M_best 25 = .ok (.goto 4, 3) := by decide +kernel
theorem d_M_best_28 : decode b_M_best 28 = .ok (.iconst 1, 1) := by decide +kernel
theorem d_M_best_29 : decode b_M_best 29 = .ok (.putfield 104, 3) := by decide +kernel
theorem d_M_best_32 : decode b_M_best 32 = .ok (.aload_n 0, 1) := by decide +kernel
theorem d_M_best_33 : decode b_M_best 33 = .ok (.getfield 104, 3) := by decide +kernel
theorem d_M_best_36 : decode b_M_best 36 = .ok (.ifCond .eq 7, 3) := by decide +kernel
theorem d_M_best_39 : decode b_M_best 39 = .ok (.iconst 0, 1) := by decide +kernel
theorem d_M_best_40 : decode b_M_best 40 = .ok (.goto 14, 3) := by decide +kernel
theorem d_M_best_43 : decode b_M_best 43 = .ok (.aload_n 0, 1) := by decide +kernel
theorem d_M_best_44 : decode b_M_best 44 = .ok (.aload_n 0, 1) := by decide +kernel
theorem d_M_best_45 : decode b_M_best 45 = .ok (.getfield 130, 3) := by decide +kernel
theorem d_M_best_48 : decode b_M_best 48 = .ok (.iload_n 2, 1) := by decide +kernel
theorem d_M_best_49 : decode b_M_best 49 = .ok (.iload_n 1, 1) := by decide +kernel
theorem d_M_best_50 : decode b_M_best 50 = .ok (.iload_n 3, 1) := by decide +kernel
theorem d_M_best_51 : decode b_M_best 51 = .ok (.invokevirtual 142, 3) := by decide +kernel
theorem d_M_best_54 : decode b_M_best 54 = .ok (.ireturn, 1) := by decide +kernel
theorem d_M_pieces_0 : decode b_M_pieces 0 = .ok (.aload_n 0, 1) := by decide +kernel
theorem d_M_pieces_1 : decode b_M_pieces 1 = .ok (.getfield 25, 3) := by decide +kernel
theorem d_M_pieces_4 : decode b_M_pieces 4 = .ok (.iload_n 1, 1) := by decide +kernel
theorem d_M_pieces_5 : decode b_M_pieces 5 = .ok (.iaload, 1) := by decide +kernel
theorem d_M_pieces_6 : decode b_M_pieces 6 = .ok (.bipush 7, 2) := by decide +kernel
theorem d_M_pieces_8 : decode b_M_pieces 8 = .ok (.iadd, 1) := by decide +kernel
theorem d_M_pieces_9 : decode b_M_pieces 9 = .ok (.bipush 8, 2) := by decide +kernel
theorem d_M_pieces_11 : decode b_M_pieces 11 = .ok (.idiv, 1) := by decide +kernel
theorem d_M_pieces_12 : decode b_M_pieces 12 = .ok (.ireturn, 1) := by decide +kernel
theorem d_M_at_0 : decode b_M_at 0 = .ok (.bipush 64, 2) := by decide +kernel
theorem d_M_at_2 : decode b_M_at 2 = .ok (.iload_n 0, 1) := by decide +kernel
theorem d_M_at_3 : decode b_M_at 3 = .ok (.imul, 1) := by decide +kernel
theorem d_M_at_4 : decode b_M_at 4 = .ok (.iconst 4, 1) := by decide +kernel
theorem d_M_at_5 : decode b_M_at 5 = .ok (.iload_n 1, 1) := by decide +kernel
theorem d_M_at_6 : decode b_M_at 6 = .ok (.imul, 1) := by decide +kernel
theorem d_M_at_7 : decode b_M_at 7 = .ok (.iadd, 1) := by decide +kernel
theorem d_M_at_8 : decode b_M_at 8 = .ok (.iload_n 2, 1) := by decide +kernel
theorem d_M_at_9 : decode b_M_at 9 = .ok (.iadd, 1) := by decide +kernel
theorem d_M_at_10 : decode b_M_at 10 = .ok (.ireturn, 1) := by decide +kernel
theorem d_M_room_0 : decode b_M_room 0 = .ok (.iload_n 1, 1) := by decide +kernel
theorem d_M_room_1 : decode b_M_room 1 = .ok (.bipush 8, 2) := by decide +kernel
theorem d_M_room_3 : decode b_M_room 3 = .ok (.if_icmp .ge 8, 3) := by decide +kernel
theorem d_M_room_6 : decode b_M_room 6 = .ok (.bipush 24, 2) := by decide +kernel
theorem d_M_room_8 : decode b_M_room 8 = .ok (.goto 5, 3) := by decide +kernel
theorem d_M_room_11 : decode b_M_room 11 = .ok (.bipush 10, 2) := by decide +kernel
theorem d_M_room_13 : decode b_M_room 13 = .ok (.istore_n 2, 1) := by decide +kernel
theorem d_M_room_14 : decode b_M_room 14 = .ok (.bipush 64, 2) := by decide +kernel
theorem d_M_room_16 : decode b_M_room 16 = .ok (.iload_n 1, 1) := by decide +kernel
theorem d_M_room_17 : decode b_M_room 17 = .ok (.imul, 1) := by decide +kernel
theorem d_M_room_18 : decode b_M_room 18 = .ok (.istore_n 3, 1) := by decide +kernel
theorem d_M_room_19 : decode b_M_room 19 = .ok (.iload_n 3, 1) := by decide +kernel
theorem d_M_room_20 : decode b_M_room 20 = .ok (.bipush 64, 2) := by decide +kernel
theorem d_M_room_22 : decode b_M_room 22 = .ok (.iload_n 1, 1) := by decide +kernel
theorem d_M_room_23 : decode b_M_room 23 = .ok (.imul, 1) := by decide +kernel
theorem d_M_room_24 : decode b_M_room 24 = .ok (.bipush 64, 2) := by decide +kernel
theorem d_M_room_26 : decode b_M_room 26 = .ok (.iadd, 1) := by decide +kernel
theorem d_M_room_27 : decode b_M_room 27 = .ok (.if_icmp .ge 21, 3) := by decide +kernel
theorem d_M_room_30 : decode b_M_room 30 = .ok (.aload_n 0, 1) := by decide +kernel
theorem d_M_room_31 : decode b_M_room 31 = .ok (.getfield 56, 3) := by decide +kernel
theorem d_M_room_34 : decode b_M_room 34 = .ok (.iload_n 3, 1) := by decide +kernel
theorem d_M_room_35 : decode b_M_room 35 = .ok (.baload, 1) := by decide +kernel
theorem d_M_room_36 : decode b_M_room 36 = .ok (.ifCond .eq 6, 3) := by decide +kernel
theorem d_M_room_39 : decode b_M_room 39 = .ok (.iinc 2 (-1), 3) := by decide +kernel
theorem d_M_room_42 : decode b_M_room 42 = .ok (.iinc 3 1, 3) := by decide +kernel
theorem d_M_room_45 : decode b_M_room 45 = .ok (.goto (-26), 3) := by decide +kernel
theorem d_M_room_48 : decode b_M_room 48 = .ok (.iload_n 2, 1) := by decide +kernel
theorem d_M_room_49 : decode b_M_room 49 = .ok (.ireturn, 1) := by decide +kernel
theorem d_M_hear_0 : decode b_M_hear 0 = .ok (.aload_n 0, 1) := by decide +kernel
theorem d_M_hear_1 : decode b_M_hear 1 = .ok (.getfield 62, 3) := by decide +kernel
theorem d_M_hear_4 : decode b_M_hear 4 = .ok (.iload_n 1, 1) := by decide +kernel
theorem d_M_hear_5 : decode b_M_hear 5 = .ok (.iload_n 2, 1) := by decide +kernel
theorem d_M_hear_6 : decode b_M_hear 6 = .ok (.iastore, 1) := by decide +kernel
theorem d_M_hear_7 : decode b_M_hear 7 = .ok (.aload_n 0, 1) := by decide +kernel
theorem d_M_hear_8 : decode b_M_hear 8 = .ok (.getfield 56, 3) := by decide +kernel
theorem d_M_hear_11 : decode b_M_hear 11 = .ok (.iload_n 1, 1) := by decide +kernel
theorem d_M_hear_12 : decode b_M_hear 12 = .ok (.baload, 1) := by decide +kernel
theorem d_M_hear_13 : decode b_M_hear 13 = .ok (.ifCond .eq 20, 3) := by decide +kernel
theorem d_M_hear_16 : decode b_M_hear 16 = .ok (.iload_n 2, 1) := by decide +kernel
theorem d_M_hear_17 : decode b_M_hear 17 = .ok (.aload_n 0, 1) := by decide +kernel
theorem d_M_hear_18 : decode b_M_hear 18 = .ok (.getfield 59, 3) := by decide +kernel
theorem d_M_hear_21 : decode b_M_hear 21 = .ok (.iload_n 1, 1) := by decide +kernel
theorem d_M_hear_22 : decode b_M_hear 22 = .ok (.iaload, 1) := by decide +kernel
theorem d_M_hear_23 : decode b_M_hear 23 = .ok (.if_icmp .le 10, 3) := by decide +kernel
theorem d_M_hear_26 : decode b_M_hear 26 = .ok (.aload_n 0, 1) := by decide +kernel
theorem d_M_hear_27 : decode b_M_hear 27 = .ok (.getfield 56, 3) := by decide +kernel
theorem d_M_hear_30 : decode b_M_hear 30 = .ok (.iload_n 1, 1) := by decide +kernel
theorem d_M_hear_31 : decode b_M_hear 31 = .ok (.iconst 0, 1) := by decide +kernel
theorem d_M_hear_32 : decode b_M_hear 32 = .ok (.bastore, 1) := by decide +kernel
theorem d_M_hear_33 : decode b_M_hear 33 = .ok (.return_, 1) := by decide +kernel
theorem d_M_learn_0 : decode b_M_learn 0 = .ok (.aload_n 0, 1) := by decide +kernel
theorem d_M_learn_1 : decode b_M_learn 1 = .ok (.getfield 68, 3) := by decide +kernel
theorem d_M_learn_4 : decode b_M_learn 4 = .ok (.bipush 16, 2) := by decide +kernel
theorem d_M_learn_6 : decode b_M_learn 6 = .ok (.iload_n 1, 1) := by decide +kernel
theorem d_M_learn_7 : decode b_M_learn 7 = .ok (.imul, 1) := by decide +kernel
theorem d_M_learn_8 : decode b_M_learn 8 = .ok (.iload_n 2, 1) := by decide +kernel
theorem d_M_learn_9 : decode b_M_learn 9 = .ok (.iadd, 1) := by decide +kernel
theorem d_M_learn_10 : decode b_M_learn 10 = .ok (.iload_n 3, 1) := by decide +kernel
theorem d_M_learn_11 : decode b_M_learn 11 = .ok (.iastore, 1) := by decide +kernel
theorem d_M_learn_12 : decode b_M_learn 12 = .ok (.iload_n 3, 1) := by decide +kernel
theorem d_M_learn_13 : decode b_M_learn 13 = .ok (.ifCond .eq 31, 3) := by decide +kernel
theorem d_M_learn_16 : decode b_M_learn 16 = .ok (.iconst 0, 1) := by decide +kernel
theorem d_M_learn_17 : decode b_M_learn 17 = .ok (.istore 4, 2) := by decide +kernel
theorem d_M_learn_19 : decode b_M_learn 19 = .ok (.iload 4, 2) := by decide +kernel
theorem d_M_learn_21 : decode b_M_learn 21 = .ok (.iconst 4, 1) := by decide +kernel
theorem d_M_learn_22 : decode b_M_learn 22 = .ok (.if_icmp .ge 22, 3) := by decide +kernel
theorem d_M_learn_25 : decode b_M_learn 25 = .ok (.aload_n 0, 1) := by decide +kernel
theorem d_M_learn_26 : decode b_M_learn 26 = .ok (.getfield 56, 3) := by decide +kernel
theorem d_M_learn_29 : decode b_M_learn 29 = .ok (.iload_n 1, 1) := by decide +kernel
theorem d_M_learn_30 : decode b_M_learn 30 = .ok (.iload_n 2, 1) := by decide +kernel
theorem d_M_learn_31 : decode b_M_learn 31 = .ok (.iload 4, 2) := by decide +kernel
theorem d_M_learn_33 : decode b_M_learn 33 = .ok (.invokestatic 146, 3) := by decide +kernel
theorem d_M_learn_36 : decode b_M_learn 36 = .ok (.iconst 0, 1) := by decide +kernel
theorem d_M_learn_37 : decode b_M_learn 37 = .ok (.bastore, 1) := by decide +kernel
theorem d_M_learn_38 : decode b_M_learn 38 = .ok (.iinc 4 1, 3) := by decide +kernel
theorem d_M_learn_41 : decode b_M_learn 41 = .ok (.goto (-22), 3) := by decide +kernel
theorem d_M_learn_44 : decode b_M_learn 44 = .ok (.return_, 1) := by decide +kernel
theorem d_M_bytesIn_0 : decode b_M_bytesIn 0 = .ok (.iconst 0, 1) := by decide +kernel
theorem d_M_bytesIn_1 : decode b_M_bytesIn 1 = .ok (.istore_n 2, 1) := by decide +kernel
theorem d_M_bytesIn_2 : decode b_M_bytesIn 2 = .ok (.iconst 0, 1) := by decide +kernel
theorem d_M_bytesIn_3 : decode b_M_bytesIn 3 = .ok (.istore_n 3, 1) := by decide +kernel
theorem d_M_bytesIn_4 : decode b_M_bytesIn 4 = .ok (.iload_n 3, 1) := by decide +kernel
theorem d_M_bytesIn_5 : decode b_M_bytesIn 5 = .ok (.aload_n 0, 1) := by decide +kernel
theorem d_M_bytesIn_6 : decode b_M_bytesIn 6 = .ok (.getfield 80, 3) := by decide +kernel
theorem d_M_bytesIn_9 : decode b_M_bytesIn 9 = .ok (.iload_n 1, 1) := by decide +kernel
theorem d_M_bytesIn_10 : decode b_M_bytesIn 10 = .ok (.iaload, 1) := by decide +kernel
theorem d_M_bytesIn_11 : decode b_M_bytesIn 11 = .ok (.if_icmp .ge 28, 3) := by decide +kernel
theorem d_M_bytesIn_14 : decode b_M_bytesIn 14 = .ok (.iload_n 2, 1) := by decide +kernel
theorem d_M_bytesIn_15 : decode b_M_bytesIn 15 = .ok (.aload_n 0, 1) := by decide +kernel
theorem d_M_bytesIn_16 : decode b_M_bytesIn 16 = .ok (.getfield 25, 3) := by decide +kernel
theorem d_M_bytesIn_19 : decode b_M_bytesIn 19 = .ok (.aload_n 0, 1) := by decide +kernel
theorem d_M_bytesIn_20 : decode b_M_bytesIn 20 = .ok (.getfield 83, 3) := by decide +kernel
theorem d_M_bytesIn_23 : decode b_M_bytesIn 23 = .ok (.bipush 16, 2) := by decide +kernel
theorem d_M_bytesIn_25 : decode b_M_bytesIn 25 = .ok (.iload_n 1, 1) := by decide +kernel
theorem d_M_bytesIn_26 : decode b_M_bytesIn 26 = .ok (.imul, 1) := by decide +kernel
theorem d_M_bytesIn_27 : decode b_M_bytesIn 27 = .ok (.iload_n 3, 1) := by decide +kernel
theorem d_M_bytesIn_28 : decode b_M_bytesIn 28 = .ok (.iadd, 1) := by decide +kernel
theorem d_M_bytesIn_29 : decode b_M_bytesIn 29 = .ok (.iaload, 1) := by decide +kernel
theorem d_M_bytesIn_30 : decode b_M_bytesIn 30 = .ok (.iaload, 1) := by decide +kernel
theorem d_M_bytesIn_31 : decode b_M_bytesIn 31 = .ok (.iadd, 1) := by decide +kernel
theorem d_M_bytesIn_32 : decode b_M_bytesIn 32 = .ok (.istore_n 2, 1) := by decide +kernel
theorem d_M_bytesIn_33 : decode b_M_bytesIn 33 = .ok (.iinc 3 1, 3) := by decide +kernel
theorem d_M_bytesIn_36 : decode b_M_bytesIn 36 = .ok (.goto (-32), 3) := by decide +kernel
theorem d_M_bytesIn_39 : decode b_M_bytesIn 39 = .ok (.iload_n 2, 1) := by decide +kernel
theorem d_M_bytesIn_40 : decode b_M_bytesIn 40 = .ok (.ireturn, 1) := by decide +kernel
theorem d_M_isFor_0 : decode b_M_isFor 0 = .ok (.aload_n 0, 1) := by decide +kernel
theorem d_M_isFor_1 : decode b_M_isFor 1 = .ok (.getfield 37, 3) := by decide +kernel
theorem d_M_isFor_4 : decode b_M_isFor 4 = .ok (.iload_n 1, 1) := by decide +kernel
theorem d_M_isFor_5 : decode b_M_isFor 5 = .ok (.iaload, 1) := by decide +kernel
theorem d_M_isFor_6 : decode b_M_isFor 6 = .ok (.iconst 3, 1) := by decide +kernel
theorem d_M_isFor_7 : decode b_M_isFor 7 = .ok (.if_icmp .ge 21, 3) := by decide +kernel
theorem d_M_isFor_10 : decode b_M_isFor 10 = .ok (.aload_n 0, 1) := by decide +kernel
theorem d_M_isFor_11 : decode b_M_isFor 11 = .ok (.getfield 37, 3) := by decide +kernel
theorem d_M_isFor_14 : decode b_M_isFor 14 = .ok (.iload_n 1, 1) := by decide +kernel
theorem d_M_isFor_15 : decode b_M_isFor 15 = .ok (.iaload, 1) := by decide +kernel
theorem d_M_isFor_16 : decode b_M_isFor 16 = .ok (.iload_n 2, 1) := by decide +kernel
theorem d_M_isFor_17 : decode b_M_isFor 17 = .ok (.if_icmp .ne 7, 3) := by decide +kernel
theorem d_M_isFor_20 : decode b_M_isFor 20 = .ok (.iconst 1, 1) := by decide +kernel
theorem d_M_isFor_21 : decode b_M_isFor 21 = .ok (.goto 34, 3) := by decide +kernel
theorem d_M_isFor_24 : decode b_M_isFor 24 = .ok (.iconst 0, 1) := by decide +kernel
theorem d_M_isFor_25 : decode b_M_isFor 25 = .ok (.goto 30, 3) := by decide +kernel
theorem d_M_isFor_28 : decode b_M_isFor 28 = .ok (.aload_n 0, 1) := by decide +kernel
theorem d_M_isFor_29 : decode b_M_isFor 29 = .ok (.getfield 86, 3) := by decide +kernel
theorem d_M_isFor_32 : decode b_M_isFor 32 = .ok (.bipush 6, 2) := by decide +kernel
theorem d_M_isFor_34 : decode b_M_isFor 34 = .ok (.aload_n 0, 1) := by decide +kernel
theorem d_M_isFor_35 : decode b_M_isFor 35 = .ok (.getfield 34, 3) := by decide +kernel
theorem d_M_isFor_38 : decode b_M_isFor 38 = .ok (.iload_n 1, 1) := by decide +kernel
theorem d_M_isFor_39 : decode b_M_isFor 39 = .ok (.iaload, 1) := by decide +kernel
theorem d_M_isFor_40 : decode b_M_isFor 40 = .ok (.imul, 1) := by decide +kernel
theorem d_M_isFor_41 : decode b_M_isFor 41 = .ok (.iconst 3, 1) := by decide +kernel
theorem d_M_isFor_42 : decode b_M_isFor 42 = .ok (.aload_n 0, 1) := by decide +kernel
theorem d_M_isFor_43 : decode b_M_isFor 43 = .ok (.getfield 37, 3) := by decide +kernel
theorem d_M_isFor_46 : decode b_M_isFor 46 = .ok (.iload_n 1, 1) := by decide +kernel
theorem d_M_isFor_47 : decode b_M_isFor 47 = .ok (.iaload, 1) := by decide +kernel
theorem d_M_isFor_48 : decode b_M_isFor 48 = .ok (.iconst 3, 1) := by decide +kernel
theorem d_M_isFor_49 : decode b_M_isFor 49 = .ok (.isub, 1) := by decide +kernel
theorem d_M_isFor_50 : decode b_M_isFor 50 = .ok (.imul, 1) := by decide +kernel
theorem d_M_isFor_51 : decode b_M_isFor 51 = .ok (.iadd, 1) := by decide +kernel
theorem d_M_isFor_52 : decode b_M_isFor 52 = .ok (.iload_n 2, 1) := by decide +kernel
theorem d_M_isFor_53 : decode b_M_isFor 53 = .ok (.iadd, 1) := by decide +kernel
theorem d_M_isFor_54 : decode b_M_isFor 54 = .ok (.baload, 1) := by decide +kernel
theorem d_M_isFor_55 : decode b_M_isFor 55 = .ok (.ireturn, 1) := by decide +kernel
theorem d_M_complete_0 : decode b_M_complete 0 = .ok (.iconst 0, 1) := by decide +kernel
theorem d_M_complete_1 : decode b_M_complete 1 = .ok (.istore_n 2, 1) := by decide +kernel
theorem d_M_complete_2 : decode b_M_complete 2 = .ok (.iload_n 2, 1) := by decide +kernel
theorem d_M_complete_3 : decode b_M_complete 3 = .ok (.aload_n 0, 1) := by decide +kernel
theorem d_M_complete_4 : decode b_M_complete 4 = .ok (.iload_n 1, 1) := by decide +kernel
theorem d_M_complete_5 : decode b_M_complete 5 = .ok (.invokevirtual 150, 3) := by decide +kernel
theorem d_M_complete_8 : decode b_M_complete 8 = .ok (.if_icmp .ge 30, 3) := by decide +kernel
theorem d_M_complete_11 : decode b_M_complete 11 = .ok (.aload_n 0, 1) := by decide +kernel
theorem d_M_complete_12 : decode b_M_complete 12 = .ok (.getfield 56, 3) := by decide +kernel
theorem d_M_complete_15 : decode b_M_complete 15 = .ok (.aload_n 0, 1) := by decide +kernel
theorem d_M_complete_16 : decode b_M_complete 16 = .ok (.getfield 34, 3) := by decide +kernel
theorem d_M_complete_19 : decode b_M_complete 19 = .ok (.iload_n 1, 1) := by decide +kernel
theorem d_M_complete_20 : decode b_M_complete 20 = .ok (.iaload, 1) := by decide +kernel
theorem d_M_complete_21 : decode b_M_complete 21 = .ok (.iload_n 1, 1) := by decide +kernel
theorem d_M_complete_22 : decode b_M_complete 22 = .ok (.iload_n 2, 1) := by decide +kernel
theorem d_M_complete_23 : decode b_M_complete 23 = .ok (.invokestatic 146, 3) := by decide +kernel
theorem d_M_complete_26 : decode b_M_complete 26 = .ok (.baload, 1) := by decide +kernel
theorem d_M_complete_27 : decode b_M_complete 27 = .ok (.ifCond .ne 5, 3) := by decide +kernel
theorem d_M_complete_30 : decode b_M_complete 30 = .ok (.iconst 0, 1) := by decide +kernel
theorem d_M_complete_31 : decode b_M_complete 31 = .ok (.ireturn, 1) := by decide +kernel
theorem d_M_complete_32 : decode b_M_complete 32 = .ok (.iinc 2 1, 3) := by decide +kernel
theorem d_M_complete_35 : decode b_M_complete 35 = .ok (.goto (-33), 3) := by decide +kernel
theorem d_M_complete_38 : decode b_M_complete 38 = .ok (.iconst 1, 1) := by decide +kernel
theorem d_M_complete_39 : decode b_M_complete 39 = .ok (.ireturn, 1) := by decide +kernel
theorem d_M_turned_0 : decode b_M_turned 0 = .ok (.iload_n 0, 1) := by decide +kernel
theorem d_M_turned_1 : decode b_M_turned 1 = .ok (.iconst 5, 1) := by decide +kernel
theorem d_M_turned_2 : decode b_M_turned 2 = .ok (.ishl, 1) := by decide +kernel
theorem d_M_turned_3 : decode b_M_turned 3 = .ok (.iload_n 0, 1) := by decide +kernel
theorem d_M_turned_4 : decode b_M_turned 4 = .ok (.bipush 27, 2) := by decide +kernel
theorem d_M_turned_6 : decode b_M_turned 6 = .ok (.iushr, 1) := by decide +kernel
theorem d_M_turned_7 : decode b_M_turned 7 = .ok (.ior, 1) := by decide +kernel
theorem d_M_turned_8 : decode b_M_turned 8 = .ok (.ireturn, 1) := by decide +kernel
theorem d_M_byteOf_0 : decode b_M_byteOf 0 = .ok (.aload_n 0, 1) := by decide +kernel
theorem d_M_byteOf_1 : decode b_M_byteOf 1 = .ok (.getfield 65, 3) := by decide +kernel
theorem d_M_byteOf_4 : decode b_M_byteOf 4 = .ok (.bipush 8, 2) := by decide +kernel
theorem d_M_byteOf_6 : decode b_M_byteOf 6 = .ok (.iload_n 1, 1) := by decide +kernel
theorem d_M_byteOf_7 : decode b_M_byteOf 7 = .ok (.iload_n 2, 1) := by decide +kernel
theorem d_M_byteOf_8 : decode b_M_byteOf 8 = .ok (.iload_n 3, 1) := by decide +kernel
theorem d_M_byteOf_9 : decode b_M_byteOf 9 = .ok (.bipush 8, 2) := by decide +kernel
theorem d_M_byteOf_11 : decode b_M_byteOf 11 = .ok (.idiv, 1) := by decide +kernel
theorem d_M_byteOf_12 : decode b_M_byteOf 12 = .ok (.invokestatic 146, 3) := by decide +kernel
theorem d_M_byteOf_15 : decode b_M_byteOf 15 = .ok (.imul, 1) := by decide +kernel
theorem d_M_byteOf_16 : decode b_M_byteOf 16 = .ok (.iload_n 3, 1) := by decide +kernel
theorem d_M_byteOf_17 : decode b_M_byteOf 17 = .ok (.bipush 8, 2) := by decide +kernel
theorem d_M_byteOf_19 : decode b_M_byteOf 19 = .ok (.irem, 1) := by decide +kernel
theorem d_M_byteOf_20 : decode b_M_byteOf 20 = .ok (.iadd, 1) := by decide +kernel
theorem d_M_byteOf_21 : decode b_M_byteOf 21 = .ok (.iaload, 1) := by decide +kernel
theorem d_M_byteOf_22 : decode b_M_byteOf 22 = .ok (.ireturn, 1) := by decide +kernel
theorem d_M_lookAt_0 : decode b_M_lookAt 0 = .ok (.aload_n 0, 1) := by decide +kernel
theorem d_M_lookAt_1 : decode b_M_lookAt 1 = .ok (.iload_n 1, 1) := by decide +kernel
theorem d_M_lookAt_2 : decode b_M_lookAt 2 = .ok (.invokevirtual 154, 3) := by decide +kernel
theorem d_M_lookAt_5 : decode b_M_lookAt 5 = .ok (.ifCond .ne 4, 3) := by decide +kernel
theorem d_M_lookAt_8 : decode b_M_lookAt 8 = .ok (.return_, 1) := by decide +kernel
theorem d_M_lookAt_9 : decode b_M_lookAt 9 = .ok (.aload_n 0, 1) := by decide +kernel
theorem d_M_lookAt_10 : decode b_M_lookAt 10 = .ok (.getfield 34, 3) := by decide +kernel
theorem d_M_lookAt_13 : decode b_M_lookAt 13 = .ok (.iload_n 1, 1) := by decide +kernel
theorem d_M_lookAt_14 : decode b_M_lookAt 14 = .ok (.iaload, 1) := by decide +kernel
theorem d_M_lookAt_15 : decode b_M_lookAt 15 = .ok (.istore_n 2, 1) := by decide +kernel
theorem d_M_lookAt_16 : decode b_M_lookAt 16 = .ok (.iconst 0, 1) := by decide +kernel
theorem d_M_lookAt_17 : decode b_M_lookAt 17 = .ok (.istore_n 3, 1) := by decide +kernel
theorem d_M_lookAt_18 : decode b_M_lookAt 18 = .ok (.iconst 0, 1) := by decide +kernel
theorem d_M_lookAt_19 : decode b_M_lookAt 19 = .ok (.istore 4, 2) := by decide +kernel
theorem d_M_lookAt_21 : decode b_M_lookAt 21 = .ok (.iload 4, 2) := by decide +kernel
theorem d_M_lookAt_23 : decode b_M_lookAt 23 = .ok (.aload_n 0, 1) := by decide +kernel
theorem d_M_lookAt_24 : decode b_M_lookAt 24 = .ok (.getfield 25, 3) := by decide +kernel
theorem d_M_lookAt_27 : decode b_M_lookAt 27 = .ok (.iload_n 1, 1) := by decide +kernel
theorem d_M_lookAt_28 : decode b_M_lookAt 28 = .ok (.iaload, 1) := by decide +kernel
theorem d_M_lookAt_29 : decode b_M_lookAt 29 = .ok (.if_icmp .ge 23, 3) := by decide +kernel
theorem d_M_lookAt_32 : decode b_M_lookAt 32 = .ok (.iload_n 3, 1) := by decide +kernel
theorem d_M_lookAt_33 : decode b_M_lookAt 33 = .ok (.invokestatic 157, 3) := by decide +kernel
theorem d_M_lookAt_36 : decode b_M_lookAt 36 = .ok (.aload_n 0, 1) := by decide +kernel
theorem d_M_lookAt_37 : decode b_M_lookAt 37 = .ok (.iload_n 2, 1) := by decide +kernel
theorem d_M_lookAt_38 : decode b_M_lookAt 38 = .ok (.iload_n 1, 1) := by decide +kernel
theorem d_M_lookAt_39 : decode b_M_lookAt 39 = .ok (.iload 4, 2) := by decide +kernel
theorem d_M_lookAt_41 : decode b_M_lookAt 41 = .ok (.invokevirtual 160, 3) := by decide +kernel
theorem d_M_lookAt_44 : decode b_M_lookAt 44 = .ok (.ixor, 1) := by decide +kernel
theorem d_M_lookAt_45 : decode b_M_lookAt 45 = .ok (.istore_n 3, 1) := by decide +kernel
theorem d_M_lookAt_46 : decode b_M_lookAt 46 = .ok (.iinc 4 1, 3) := by decide +kernel
theorem d_M_lookAt_49 : decode b_M_lookAt 49 = .ok (.goto (-28), 3) := by decide +kernel
theorem d_M_lookAt_52 : decode b_M_lookAt 52 = .ok (.iload_n 3, 1) := by decide +kernel
theorem d_M_lookAt_53 : decode b_M_lookAt 53 = .ok (.aload_n 0, 1) := by decide +kernel
theorem d_M_lookAt_54 : decode b_M_lookAt 54 = .ok (.getfield 43, 3) := by decide +kernel
theorem d_M_lookAt_57 : decode b_M_lookAt 57 = .ok (.iload_n 1, 1) := by decide +kernel
theorem d_M_lookAt_58 : decode b_M_lookAt 58 = .ok (.iaload, 1) := by decide +kernel
theorem d_M_lookAt_59 : decode b_M_lookAt 59 = .ok (.if_icmp .eq 11, 3) := by decide +kernel
theorem d_M_lookAt_62 : decode b_M_lookAt 62 = .ok (.aload_n 0, 1) := by decide +kernel
theorem d_M_lookAt_63 : decode b_M_lookAt 63 = .ok (.iload_n 2, 1) := by decide +kernel
theorem d_M_lookAt_64 : decode b_M_lookAt 64 = .ok (.iload_n 1, 1) := by decide +kernel
theorem d_M_lookAt_65 : decode b_M_lookAt 65 = .ok (.iconst 2, 1) := by decide +kernel
theorem d_M_lookAt_66 : decode b_M_lookAt 66 = .ok (.invokevirtual 163, 3) := by decide +kernel
theorem d_M_lookAt_69 : decode b_M_lookAt 69 = .ok (.return_, 1) := by decide +kernel
theorem d_M_lookAt_70 : decode b_M_lookAt 70 = .ok (.iconst 0, 1) := by decide +kernel
theorem d_M_lookAt_71 : decode b_M_lookAt 71 = .ok (.istore 4, 2) := by decide +kernel
theorem d_M_lookAt_73 : decode b_M_lookAt 73 = .ok (.iconst 0, 1) := by decide +kernel
theorem d_M_lookAt_74 : decode b_M_lookAt 74 = .ok (.istore 5, 2) := by decide +kernel
theorem d_M_lookAt_76 : decode b_M_lookAt 76 = .ok (.iload 5, 2) := by decide +kernel
theorem d_M_lookAt_78 : decode b_M_lookAt 78 = .ok (.iconst 3, 1) := by decide +kernel
theorem d_M_lookAt_79 : decode b_M_lookAt 79 = .ok (.if_icmp .ge 64, 3) := by decide +kernel
theorem d_M_lookAt_82 : decode b_M_lookAt 82 = .ok (.aload_n 0, 1) := by decide +kernel
theorem d_M_lookAt_83 : decode b_M_lookAt 83 = .ok (.iload_n 1, 1) := by decide +kernel
theorem d_M_lookAt_84 : decode b_M_lookAt 84 = .ok (.iload 5, 2) := by decide +kernel
theorem d_M_lookAt_86 : decode b_M_lookAt 86 = .ok (.invokevirtual 167, 3) := by decide +kernel
theorem d_M_lookAt_89 : decode b_M_lookAt 89 = .ok (.ifCond .eq 48, 3) := by decide +kernel
theorem d_M_lookAt_92 : decode b_M_lookAt 92 = .ok (.iconst 3, 1) := by decide +kernel
theorem d_M_lookAt_93 : decode b_M_lookAt 93 = .ok (.iload_n 2, 1) := by decide +kernel
theorem d_M_lookAt_94 : decode b_M_lookAt 94 = .ok (.imul, 1) := by decide +kernel
theorem d_M_lookAt_95 : decode b_M_lookAt 95 = .ok (.iload 5, 2) := by decide +kernel
theorem d_M_lookAt_97 : decode b_M_lookAt 97 = .ok (.iadd, 1) := by decide +kernel
theorem d_M_lookAt_98 : decode b_M_lookAt 98 = .ok (.istore 6, 2) := by decide +kernel
theorem d_M_lookAt_100 : decode b_M_lookAt 100 = .ok (.iinc 4 1, 3) := by decide +kernel
theorem d_M_lookAt_103 : decode b_M_lookAt 103 = .ok (.aload_n 0, 1) := by decide +kernel
theorem d_M_lookAt_104 : decode b_M_lookAt 104 = .ok (.getfield 77, 3) := by decide +kernel
theorem d_M_lookAt_107 : decode b_M_lookAt 107 = .ok (.iload 6, 2) := by decide +kernel
theorem d_M_lookAt_109 : decode b_M_lookAt 109 = .ok (.iaload, 1) := by decide +kernel
theorem d_M_lookAt_110 : decode b_M_lookAt 110 = .ok (.ifCond .lt 26, 3) := by decide +kernel
theorem d_M_lookAt_113 : decode b_M_lookAt 113 = .ok (.aload_n 0, 1) := by decide +kernel
theorem d_M_lookAt_114 : decode b_M_lookAt 114 = .ok (.getfield 77, 3) := by decide +kernel
theorem d_M_lookAt_117 : decode b_M_lookAt 117 = .ok (.iload 6, 2) := by decide +kernel
theorem d_M_lookAt_119 : decode b_M_lookAt 119 = .ok (.iaload, 1) := by decide +kernel
theorem d_M_lookAt_120 : decode b_M_lookAt 120 = .ok (.aload_n 0, 1) := by decide +kernel
theorem d_M_lookAt_121 : decode b_M_lookAt 121 = .ok (.iload 6, 2) := by decide +kernel
theorem d_M_lookAt_123 : decode b_M_lookAt 123 = .ok (.invokevirtual 170, 3) := by decide +kernel
theorem d_M_lookAt_126 : decode b_M_lookAt 126 = .ok (.isub, 1) := by decide +kernel
theorem d_M_lookAt_127 : decode b_M_lookAt 127 = .ok (.aload_n 0, 1) := by decide +kernel
theorem d_M_lookAt_128 : decode b_M_lookAt 128 = .ok (.getfield 25, 3) := by decide +kernel
theorem d_M_lookAt_131 : decode b_M_lookAt 131 = .ok (.iload_n 1, 1) := by decide +kernel
theorem d_M_lookAt_132 : decode b_M_lookAt 132 = .ok (.iaload, 1) := by decide +kernel
theorem d_M_lookAt_133 : decode b_M_lookAt 133 = .ok (.if_icmp .ge 4, 3) := by decide +kernel
theorem d_M_lookAt_136 : decode b_M_lookAt 136 = .ok (.return_, 1) := by decide +kernel
theorem d_M_lookAt_137 : decode b_M_lookAt 137 = .ok (.iinc 5 1, 3) := by decide +kernel
theorem d_M_lookAt_140 : decode b_M_lookAt 140 = .ok (.goto (-64), 3) := by decide +kernel
theorem d_M_lookAt_143 : decode b_M_lookAt 143 = .ok (.iload 4, 2) := by decide +kernel
theorem d_M_lookAt_145 : decode b_M_lookAt 145 = .ok (.ifCond .ne 4, 3) := by decide +kernel
theorem d_M_lookAt_148 : decode b_M_lookAt 148 = .ok (.return_, 1) := by decide +kernel
theorem d_M_lookAt_149 : decode b_M_lookAt 149 = .ok (.iconst 0, 1) := by decide +kernel
theorem d_M_lookAt_150 : decode b_M_lookAt 150 = .ok (.istore 5, 2) := by decide +kernel
theorem d_M_lookAt_152 : decode b_M_lookAt 152 = .ok (.iload 5, 2) := by decide +kernel
theorem d_M_lookAt_154 : decode b_M_lookAt 154 = .ok (.aload_n 0, 1) := by decide +kernel
theorem d_M_lookAt_155 : decode b_M_lookAt 155 = .ok (.getfield 25, 3) := by decide +kernel
theorem d_M_lookAt_158 : decode b_M_lookAt 158 = .ok (.iload_n 1, 1) := by decide +kernel
theorem d_M_lookAt_159 : decode b_M_lookAt 159 = .ok (.iaload, 1) := by decide +kernel
theorem d_M_lookAt_160 : decode b_M_lookAt 160 = .ok (.if_icmp .ge 29, 3) := by decide +kernel
theorem d_M_lookAt_163 : decode b_M_lookAt 163 = .ok (.aload_n 0, 1) := by decide +kernel
theorem d_M_lookAt_164 : decode b_M_lookAt 164 = .ok (.getfield 53, 3) := by decide +kernel
theorem d_M_lookAt_167 : decode b_M_lookAt 167 = .ok (.bipush 32, 2) := by decide +kernel
theorem d_M_lookAt_169 : decode b_M_lookAt 169 = .ok (.iload_n 1, 1) := by decide +kernel
theorem d_M_lookAt_170 : decode b_M_lookAt 170 = .ok (.imul, 1) := by decide +kernel
theorem d_M_lookAt_171 : decode b_M_lookAt 171 = .ok (.iload 5, 2) := by decide +kernel
theorem d_M_lookAt_173 : decode b_M_lookAt 173 = .ok (.iadd, 1) := by decide +kernel
theorem d_M_lookAt_174 : decode b_M_lookAt 174 = .ok (.aload_n 0, 1) := by decide +kernel
theorem d_M_lookAt_175 : decode b_M_lookAt 175 = .ok (.iload_n 2, 1) := by decide +kernel
theorem d_M_lookAt_176 : decode b_M_lookAt 176 = .ok (.iload_n 1, 1) := by decide +kernel
theorem d_M_lookAt_177 : decode b_M_lookAt 177 = .ok (.iload 5, 2) := by decide +kernel
theorem d_M_lookAt_179 : decode b_M_lookAt 179 = .ok (.invokevirtual 160, 3) := by decide +kernel
theorem d_M_lookAt_182 : decode b_M_lookAt 182 = .ok (.iastore, 1) := by decide +kernel
theorem d_M_lookAt_183 : decode b_M_lookAt 183 = .ok (.iinc 5 1, 3) := by decide +kernel
theorem d_M_lookAt_186 : decode b_M_lookAt 186 = .ok (.goto (-34), 3) := by decide +kernel
theorem d_M_lookAt_189 : decode b_M_lookAt 189 = .ok (.iconst 0, 1) := by decide +kernel
theorem d_M_lookAt_190 : decode b_M_lookAt 190 = .ok (.istore 5, 2) := by decide +kernel
theorem d_M_lookAt_192 : decode b_M_lookAt 192 = .ok (.iload 5, 2) := by decide +kernel
theorem d_M_lookAt_194 : decode b_M_lookAt 194 = .ok (.iconst 3, 1) := by decide +kernel
theorem d_M_lookAt_195 : decode b_M_lookAt 195 = .ok (.if_icmp .ge 57, 3) := by decide +kernel
theorem d_M_lookAt_198 : decode b_M_lookAt 198 = .ok (.aload_n 0, 1) := by decide +kernel
theorem d_M_lookAt_199 : decode b_M_lookAt 199 = .ok (.iload_n 1, 1) := by decide +kernel
theorem d_M_lookAt_200 : decode b_M_lookAt 200 = .ok (.iload 5, 2) := by decide +kernel
theorem d_M_lookAt_202 : decode b_M_lookAt 202 = .ok (.invokevirtual 167, 3) := by decide +kernel
theorem d_M_lookAt_205 : decode b_M_lookAt 205 = .ok (.ifCond .eq 41, 3) := by decide +kernel
theorem d_M_lookAt_208 : decode b_M_lookAt 208 = .ok (.iconst 3, 1) := by decide +kernel
theorem d_M_lookAt_209 : decode b_M_lookAt 209 = .ok (.iload_n 2, 1) := by decide +kernel
theorem d_M_lookAt_210 : decode b_M_lookAt 210 = .ok (.imul, 1) := by decide +kernel
theorem d_M_lookAt_211 : decode b_M_lookAt 211 = .ok (.iload 5, 2) := by decide +kernel
theorem d_M_lookAt_213 : decode b_M_lookAt 213 = .ok (.iadd, 1) := by decide +kernel
theorem d_M_lookAt_214 : decode b_M_lookAt 214 = .ok (.istore 6, 2) := by decide +kernel
theorem d_M_lookAt_216 : decode b_M_lookAt 216 = .ok (.aload_n 0, 1) := by decide +kernel
theorem d_M_lookAt_217 : decode b_M_lookAt 217 = .ok (.getfield 83, 3) := by decide +kernel
theorem d_M_lookAt_220 : decode b_M_lookAt 220 = .ok (.bipush 16, 2) := by decide +kernel
theorem d_M_lookAt_222 : decode b_M_lookAt 222 = .ok (.iload 6, 2) := by decide +kernel
theorem d_M_lookAt_224 : decode b_M_lookAt 224 = .ok (.imul, 1) := by decide +kernel
theorem d_M_lookAt_225 : decode b_M_lookAt 225 = .ok (.aload_n 0, 1) := by decide +kernel
theorem d_M_lookAt_226 : decode b_M_lookAt 226 = .ok (.getfield 80, 3) := by decide +kernel
theorem d_M_lookAt_229 : decode b_M_lookAt 229 = .ok (.iload 6, 2) := by decide +kernel
theorem d_M_lookAt_231 : decode b_M_lookAt 231 = .ok (.iaload, 1) := by decide +kernel
theorem d_M_lookAt_232 : decode b_M_lookAt 232 = .ok (.iadd, 1) := by decide +kernel
theorem d_M_lookAt_233 : decode b_M_lookAt 233 = .ok (.iload_n 1, 1) := by decide +kernel
theorem d_M_lookAt_234 : decode b_M_lookAt 234 = .ok (.iastore, 1) := by decide +kernel
theorem d_M_lookAt_235 : decode b_M_lookAt 235 = .ok (.aload_n 0, 1) := by decide +kernel
theorem d_M_lookAt_236 : decode b_M_lookAt 236 = .ok (.getfield 80, 3) := by decide +kernel
theorem d_M_lookAt_239 : decode b_M_lookAt 239 = .ok (.iload 6, 2) := by decide +kernel
theorem d_M_lookAt_241 : decode b_M_lookAt 241 = .ok (.dup2, 1) := by decide +kernel
theorem d_M_lookAt_242 : decode b_M_lookAt 242 = .ok (.iaload, 1) := by decide +kernel
theorem d_M_lookAt_243 : decode b_M_lookAt 243 = .ok (.iconst 1, 1) := by decide +kernel
theorem d_M_lookAt_244 : decode b_M_lookAt 244 = .ok (.iadd, 1) := by decide +kernel
theorem d_M_lookAt_245 : decode b_M_lookAt 245 = .ok (.iastore, 1) := by decide +kernel
theorem d_M_lookAt_246 : decode b_M_lookAt 246 = .ok (.iinc 5 1, 3) := by decide +kernel
theorem d_M_lookAt_249 : decode b_M_lookAt 249 = .ok (.goto (-57), 3) := by decide +kernel
theorem d_M_lookAt_252 : decode b_M_lookAt 252 = .ok (.aload_n 0, 1) := by decide +kernel
theorem d_M_lookAt_253 : decode b_M_lookAt 253 = .ok (.iload_n 2, 1) := by decide +kernel
theorem d_M_lookAt_254 : decode b_M_lookAt 254 = .ok (.iload_n 1, 1) := by decide +kernel
theorem d_M_lookAt_255 : decode b_M_lookAt 255 = .ok (.iconst 1, 1) := by decide +kernel
theorem d_M_lookAt_256 : decode b_M_lookAt 256 = .ok (.invokevirtual 163, 3) := by decide +kernel
theorem d_M_lookAt_259 : decode b_M_lookAt 259 = .ok (.return_, 1) := by decide +kernel
theorem d_M_lookAll_0 : decode b_M_lookAll 0 = .ok (.iconst 0, 1) := by decide +kernel
theorem d_M_lookAll_1 : decode b_M_lookAll 1 = .ok (.istore_n 2, 1) := by decide +kernel
theorem d_M_lookAll_2 : decode b_M_lookAll 2 = .ok (.iload_n 2, 1) := by decide +kernel
theorem d_M_lookAll_3 : decode b_M_lookAll 3 = .ok (.aload_n 0, 1) := by decide +kernel
theorem d_M_lookAll_4 : decode b_M_lookAll 4 = .ok (.getfield 112, 3) := by decide +kernel
theorem d_M_lookAll_7 : decode b_M_lookAll 7 = .ok (.if_icmp .ge 24, 3) := by decide +kernel
theorem d_M_lookAll_10 : decode b_M_lookAll 10 = .ok (.aload_n 0, 1) := by decide +kernel
theorem d_M_lookAll_11 : decode b_M_lookAll 11 = .ok (.getfield 34, 3) := by decide +kernel
theorem d_M_lookAll_14 : decode b_M_lookAll 14 = .ok (.iload_n 2, 1) := by decide +kernel
theorem d_M_lookAll_15 : decode b_M_lookAll 15 = .ok (.iaload, 1) := by decide +kernel
theorem d_M_lookAll_16 : decode b_M_lookAll 16 = .ok (.iload_n 1, 1) := by decide +kernel
theorem d_M_lookAll_17 : decode b_M_lookAll 17 = .ok (.if_icmp .ne 8, 3) := by decide +kernel
theorem d_M_lookAll_20 : decode b_M_lookAll 20 = .ok (.aload_n 0, 1) := by decide +kernel
theorem d_M_lookAll_21 : decode b_M_lookAll 21 = .ok (.iload_n 2, 1) := by decide +kernel
theorem d_M_lookAll_22 : decode b_M_lookAll 22 = .ok (.invokevirtual 173, 3) := by decide +kernel
theorem d_M_lookAll_25 : decode b_M_lookAll 25 = .ok (.iinc 2 1, 3) := by decide +kernel
theorem d_M_lookAll_28 : decode b_M_lookAll 28 = .ok (.goto (-26), 3) := by decide +kernel
theorem d_M_lookAll_31 : decode b_M_lookAll 31 = .ok (.return_, 1) := by decide +kernel
theorem d_M_household_0 : decode b_M_household 0 = .ok (.aload_n 0, 1) := by decide +kernel
theorem d_M_household_1 : decode b_M_household 1 = .ok (.iload_n 1, 1) := by decide +kernel
theorem d_M_household_2 : decode b_M_household 2 = .ok (.invokestatic 119, 3) := by decide +kernel
theorem d_M_household_5 : decode b_M_household 5 = .ok (.ifCond .eq 25, 3) := by decide +kernel
theorem d_M_household_8 : decode b_M_household 8 = .ok (.iload_n 2, 1) := by decide +kernel
theorem d_M_household_9 : decode b_M_household 9 = .ok (.iconst 2, 1) := by decide +kernel
theorem d_M_household_10 : decode b_M_household 10 = .ok (.invokestatic 108, 3) := by decide +kernel
theorem d_M_household_13 : decode b_M_household 13 = .ok (.ifCond .eq 17, 3) := by decide +kernel
theorem d_M_household_16 : decode b_M_household 16 = .ok (.iload_n 3, 1) := by decide +kernel
theorem d_M_household_17 : decode b_M_household 17 = .ok (.sipush 200, 3) := by decide +kernel
theorem d_M_household_20 : decode b_M_household 20 = .ok (.invokestatic 108, 3) := by decide +kernel
theorem d_M_household_23 : decode b_M_household 23 = .ok (.ifCond .eq 7, 3) := by decide +kernel
theorem d_M_household_26 : decode b_M_household 26 = .ok (.iconst 0, 1) := by decide +kernel
theorem d_M_household_27 : decode b_M_household 27 = .ok (.goto 4, 3) := by decide +kernel
theorem d_M_household_30 : decode b_M_household 30 = .ok (.iconst 1, 1) := by decide +kernel
theorem d_M_household_31 : decode b_M_household 31 = .ok (.putfield 104, 3) := by decide +kernel
theorem d_M_household_34 : decode b_M_household 34 = .ok (.aload_n 0, 1) := by decide +kernel
theorem d_M_household_35 : decode b_M_household 35 = .ok (.getfield 104, 3) := by decide +kernel
theorem d_M_household_38 : decode b_M_household 38 = .ok (.ifCond .eq 4, 3) := by decide +kernel
theorem d_M_household_41 : decode b_M_household 41 = .ok (.return_, 1) := by decide +kernel
theorem d_M_household_42 : decode b_M_household 42 = .ok (.aload_n 0, 1) := by decide +kernel
theorem d_M_household_43 : decode b_M_household 43 = .ok (.getfield 77, 3) := by decide +kernel
theorem d_M_household_46 : decode b_M_household 46 = .ok (.iconst 3, 1) := by decide +kernel
theorem d_M_household_47 : decode b_M_household 47 = .ok (.iload_n 1, 1) := by decide +kernel
theorem d_M_household_48 : decode b_M_household 48 = .ok (.imul, 1) := by decide +kernel
theorem d_M_household_49 : decode b_M_household 49 = .ok (.iload_n 2, 1) := by decide +kernel
theorem d_M_household_50 : decode b_M_household 50 = .ok (.iadd, 1) := by decide +kernel
theorem d_M_household_51 : decode b_M_household 51 = .ok (.iload_n 3, 1) := by decide +kernel
theorem d_M_household_52 : decode b_M_household 52 = .ok (.iastore, 1) := by decide +kernel
theorem d_M_household_53 : decode b_M_household 53 = .ok (.aload_n 0, 1) := by decide +kernel
theorem d_M_household_54 : decode b_M_household 54 = .ok (.iload_n 1, 1) := by decide +kernel
theorem d_M_household_55 : decode b_M_household 55 = .ok (.invokevirtual 177, 3) := by decide +kernel
theorem d_M_household_58 : decode b_M_household 58 = .ok (.return_, 1) := by decide +kernel
theorem d_M_group_0 : decode b_M_group 0 = .ok (.aload_n 0, 1) := by decide +kernel
theorem d_M_group_1 : decode b_M_group 1 = .ok (.iload_n 1, 1) := by decide +kernel
theorem d_M_group_2 : decode b_M_group 2 = .ok (.invokestatic 119, 3) := by decide +kernel
theorem d_M_group_5 : decode b_M_group 5 = .ok (.ifCond .eq 23, 3) := by decide +kernel
theorem d_M_group_8 : decode b_M_group 8 = .ok (.iload_n 2, 1) := by decide +kernel
theorem d_M_group_9 : decode b_M_group 9 = .ok (.iconst 1, 1) := by decide +kernel
theorem d_M_group_10 : decode b_M_group 10 = .ok (.invokestatic 108, 3) := by decide +kernel
theorem d_M_group_13 : decode b_M_group 13 = .ok (.ifCond .eq 15, 3) := by decide +kernel
theorem d_M_group_16 : decode b_M_group 16 = .ok (.iload_n 3, 1) := by decide +kernel
theorem d_M_group_17 : decode b_M_group 17 = .ok (.iconst 2, 1) := by decide +kernel
theorem d_M_group_18 : decode b_M_group 18 = .ok (.invokestatic 108, 3) := by decide +kernel
theorem d_M_group_21 : decode b_M_group 21 = .ok (.ifCond .eq 7, 3) := by decide +kernel
theorem d_M_group_24 : decode b_M_group 24 = .ok (.iconst 0, 1) := by decide +kernel
theorem d_M_group_25 : decode b_M_group 25 = .ok (.goto 4, 3) := by decide +kernel
theorem d_M_group_28 : decode b_M_group 28 = .ok (.iconst 1, 1) := by decide +kernel
theorem d_M_group_29 : decode b_M_group 29 = .ok (.putfield 104, 3) := by decide +kernel
theorem d_M_group_32 : decode b_M_group 32 = .ok (.aload_n 0, 1) := by decide +kernel
theorem d_M_group_33 : decode b_M_group 33 = .ok (.getfield 104, 3) := by decide +kernel
theorem d_M_group_36 : decode b_M_group 36 = .ok (.ifCond .eq 5, 3) := by decide +kernel
theorem d_M_group_39 : decode b_M_group 39 = .ok (.iconst 0, 1) := by decide +kernel
theorem d_M_group_40 : decode b_M_group 40 = .ok (.ireturn, 1) := by decide +kernel
theorem d_M_group_41 : decode b_M_group 41 = .ok (.bipush 6, 2) := by decide +kernel
theorem d_M_group_43 : decode b_M_group 43 = .ok (.iload_n 1, 1) := by decide +kernel
theorem d_M_group_44 : decode b_M_group 44 = .ok (.imul, 1) := by decide +kernel
theorem d_M_group_45 : decode b_M_group 45 = .ok (.iconst 3, 1) := by decide +kernel
theorem d_M_group_46 : decode b_M_group 46 = .ok (.iload_n 2, 1) := by decide +kernel
theorem d_M_group_47 : decode b_M_group 47 = .ok (.imul, 1) := by decide +kernel
theorem d_M_group_48 : decode b_M_group 48 = .ok (.iadd, 1) := by decide +kernel
theorem d_M_group_49 : decode b_M_group 49 = .ok (.iload_n 3, 1) := by decide +kernel
theorem d_M_group_50 : decode b_M_group 50 = .ok (.iadd, 1) := by decide +kernel
theorem d_M_group_51 : decode b_M_group 51 = .ok (.istore 4, 2) := by decide +kernel
theorem d_M_group_53 : decode b_M_group 53 = .ok (.aload_n 0, 1) := by decide +kernel
theorem d_M_group_54 : decode b_M_group 54 = .ok (.getfield 86, 3) := by decide +kernel
theorem d_M_group_57 : decode b_M_group 57 = .ok (.iload 4, 2) := by decide +kernel
theorem d_M_group_59 : decode b_M_group 59 = .ok (.aload_n 0, 1) := by decide +kernel
theorem d_M_group_60 : decode b_M_group 60 = .ok (.getfield 86, 3) := by decide +kernel
theorem d_M_group_63 : decode b_M_group 63 = .ok (.iload 4, 2) := by decide +kernel
theorem d_M_group_65 : decode b_M_group 65 = .ok (.baload, 1) := by decide +kernel
theorem d_M_group_66 : decode b_M_group 66 = .ok (.ifCond .ne 7, 3) := by decide +kernel
theorem d_M_group_69 : decode b_M_group 69 = .ok (.iconst 1, 1) := by decide +kernel
theorem d_M_group_70 : decode b_M_group 70 = .ok (.goto 4, 3) := by decide +kernel
theorem d_M_group_73 : decode b_M_group 73 = .ok (.iconst 0, 1) := by decide +kernel
theorem d_M_group_74 : decode b_M_group 74 = .ok (.bastore, 1) := by decide +kernel
theorem d_M_group_75 : decode b_M_group 75 = .ok (.aload_n 0, 1) := by decide +kernel
theorem d_M_group_76 : decode b_M_group 76 = .ok (.getfield 86, 3) := by decide +kernel
theorem d_M_group_79 : decode b_M_group 79 = .ok (.iload 4, 2) := by decide +kernel
theorem d_M_group_81 : decode b_M_group 81 = .ok (.baload, 1) := by decide +kernel
theorem d_M_group_82 : decode b_M_group 82 = .ok (.ifCond .eq 8, 3) := by decide +kernel
theorem d_M_group_85 : decode b_M_group 85 = .ok (.aload_n 0, 1) := by decide +kernel
theorem d_M_group_86 : decode b_M_group 86 = .ok (.iload_n 1, 1) := by decide +kernel
theorem d_M_group_87 : decode b_M_group 87 = .ok (.invokevirtual 177, 3) := by decide +kernel
theorem d_M_group_90 : decode b_M_group 90 = .ok (.aload_n 0, 1) := by decide +kernel
theorem d_M_group_91 : decode b_M_group 91 = .ok (.getfield 86, 3) := by decide +kernel
theorem d_M_group_94 : decode b_M_group 94 = .ok (.iload 4, 2) := by decide +kernel
theorem d_M_group_96 : decode b_M_group 96 = .ok (.baload, 1) := by decide +kernel
theorem d_M_group_97 : decode b_M_group 97 = .ok (.ireturn, 1) := by decide +kernel
theorem d_M_key_0 : decode b_M_key 0 = .ok (.aload_n 0, 1) := by decide +kernel
theorem d_M_key_1 : decode b_M_key 1 = .ok (.iconst 0, 1) := by decide +kernel
theorem d_M_key_2 : decode b_M_key 2 = .ok (.putfield 104, 3) := by decide +kernel
theorem d_M_key_5 : decode b_M_key 5 = .ok (.aload_n 0, 1) := by decide +kernel
theorem d_M_key_6 : decode b_M_key 6 = .ok (.getfield 180, 3) := by decide +kernel
theorem d_M_key_9 : decode b_M_key 9 = .ok (.bipush 32, 2) := by decide +kernel
theorem d_M_key_11 : decode b_M_key 11 = .ok (.if_icmp .ne 5, 3) := by decide +kernel
theorem d_M_key_14 : decode b_M_key 14 = .ok (.iconst 0, 1) := by decide +kernel
theorem d_M_key_15 : decode b_M_key 15 = .ok (.ireturn, 1) := by decide +kernel
theorem d_M_key_16 : decode b_M_key 16 = .ok (.aload_n 0, 1) := by decide +kernel
theorem d_M_key_17 : decode b_M_key 17 = .ok (.getfield 89, 3) := by decide +kernel
theorem d_M_key_20 : decode b_M_key 20 = .ok (.aload_n 0, 1) := by decide +kernel
theorem d_M_key_21 : decode b_M_key 21 = .ok (.getfield 180, 3) := by decide +kernel
theorem d_M_key_24 : decode b_M_key 24 = .ok (.iload_n 1, 1) := by decide +kernel
theorem d_M_key_25 : decode b_M_key 25 = .ok (.sipush 255, 3) := by decide +kernel
theorem d_M_key_28 : decode b_M_key 28 = .ok (.iand, 1) := by decide +kernel
theorem d_M_key_29 : decode b_M_key 29 = .ok (.iastore, 1) := by decide +kernel
theorem d_M_key_30 : decode b_M_key 30 = .ok (.aload_n 0, 1) := by decide +kernel
theorem d_M_key_31 : decode b_M_key 31 = .ok (.dup, 1) := by decide +kernel
theorem d_M_key_32 : decode b_M_key 32 = .ok (.getfield 180, 3) := by decide +kernel
theorem d_M_key_35 : decode b_M_key 35 = .ok (.iconst 1, 1) := by decide +kernel
theorem d_M_key_36 : decode b_M_key 36 = .ok (.iadd, 1) := by decide +kernel
theorem d_M_key_37 : decode b_M_key 37 = .ok (.putfield 180, 3) := by decide +kernel
theorem d_M_key_40 : decode b_M_key 40 = .ok (.iconst 1, 1) := by decide +kernel
theorem d_M_key_41 : decode b_M_key 41 = .ok (.ireturn, 1) := by decide +kernel
theorem d_M_post_0 : decode b_M_post 0 = .ok (.iload_n 1, 1) := by decide +kernel
theorem d_M_post_1 : decode b_M_post 1 = .ok (.invokestatic 119, 3) := by decide +kernel
theorem d_M_post_4 : decode b_M_post 4 = .ok (.ifCond .eq 38, 3) := by decide +kernel
theorem d_M_post_7 : decode b_M_post 7 = .ok (.iload_n 2, 1) := by decide +kernel
theorem d_M_post_8 : decode b_M_post 8 = .ok (.invokestatic 119, 3) := by decide +kernel
theorem d_M_post_11 : decode b_M_post 11 = .ok (.ifCond .eq 31, 3) := by decide +kernel
theorem d_M_post_14 : decode b_M_post 14 = .ok (.iload_n 3, 1) := by decide +kernel
theorem d_M_post_15 : decode b_M_post 15 = .ok (.iconst 4, 1) := by decide +kernel
theorem d_M_post_16 : decode b_M_post 16 = .ok (.invokestatic 108, 3) := by decide +kernel
theorem d_M_post_19 : decode b_M_post 19 = .ok (.ifCond .eq 23, 3) := by decide +kernel
theorem d_M_post_22 : decode b_M_post 22 = .ok (.iload 4, 2) := by decide +kernel
theorem d_M_post_24 : decode b_M_post 24 = .ok (.iconst 2, 1) := by decide +kernel
theorem d_M_post_25 : decode b_M_post 25 = .ok (.invokestatic 108, 3) := by decide +kernel
theorem d_M_post_28 : decode b_M_post 28 = .ok (.ifCond .eq 14, 3) := by decide +kernel
theorem d_M_post_31 : decode b_M_post 31 = .ok (.aload_n 0, 1) := by decide +kernel
theorem d_M_post_32 : decode b_M_post 32 = .ok (.getfield 180, 3) := by decide +kernel
theorem d_M_post_35 : decode b_M_post 35 = .ok (.ifCond .le 7, 3) := by decide +kernel
theorem d_M_post_38 : decode b_M_post 38 = .ok (.iconst 1, 1) := by decide +kernel
theorem d_M_post_39 : decode b_M_post 39 = .ok (.goto 4, 3) := by decide +kernel
theorem d_M_post_42 : decode b_M_post 42 = .ok (.iconst 0, 1) := by decide +kernel
theorem d_M_post_43 : decode b_M_post 43 = .ok (.istore 5, 2) := by decide +kernel
theorem d_M_post_45 : decode b_M_post 45 = .ok (.aload_n 0, 1) := by decide +kernel
theorem d_M_post_46 : decode b_M_post 46 = .ok (.iload 5, 2) := by decide +kernel
theorem d_M_post_48 : decode b_M_post 48 = .ok (.ifCond .ne 7, 3) := by decide +kernel
theorem d_M_post_51 : decode b_M_post 51 = .ok (.iconst 1, 1) := by decide +kernel
theorem d_M_post_52 : decode b_M_post 52 = .ok (.goto 35, 3) := by decide +kernel
theorem d_M_post_55 : decode b_M_post 55 = .ok (.aload_n 0, 1) := by decide +kernel
theorem d_M_post_56 : decode b_M_post 56 = .ok (.getfield 112, 3) := by decide +kernel
theorem d_M_post_59 : decode b_M_post 59 = .ok (.bipush 16, 2) := by decide +kernel
theorem d_M_post_61 : decode b_M_post 61 = .ok (.if_icmp .eq 21, 3) := by decide +kernel
theorem d_M_post_64 : decode b_M_post 64 = .ok (.aload_n 0, 1) := by decide +kernel
theorem d_M_post_65 : decode b_M_post 65 = .ok (.iload_n 1, 1) := by decide +kernel
theorem d_M_post_66 : decode b_M_post 66 = .ok (.invokevirtual 183, 3) := by decide +kernel
theorem d_M_post_69 : decode b_M_post 69 = .ok (.aload_n 0, 1) := by decide +kernel
theorem d_M_post_70 : decode b_M_post 70 = .ok (.getfield 180, 3) := by decide +kernel
theorem d_M_post_73 : decode b_M_post 73 = .ok (.bipush 7, 2) := by decide +kernel
theorem d_M_post_75 : decode b_M_post 75 = .ok (.iadd, 1) := by decide +kernel
theorem d_M_post_76 : decode b_M_post 76 = .ok (.bipush 8, 2) := by decide +kernel
theorem d_M_post_78 : decode b_M_post 78 = .ok (.idiv, 1) := by decide +kernel
theorem d_M_post_79 : decode b_M_post 79 = .ok (.if_icmp .ge 7, 3) := by decide +kernel
theorem d_M_post_82 : decode b_M_post 82 = .ok (.iconst 2, 1) := by decide +kernel
theorem d_M_post_83 : decode b_M_post 83 = .ok (.goto 4, 3) := by decide +kernel
theorem d_M_post_86 : decode b_M_post 86 = .ok (.iconst 0, 1) := by decide +kernel
theorem d_M_post_87 : decode b_M_post 87 = .ok (.putfield 104, 3) := by decide +kernel
theorem d_M_post_90 : decode b_M_post 90 = .ok (.aload_n 0, 1) := by decide +kernel
theorem d_M_post_91 : decode b_M_post 91 = .ok (.getfield 104, 3) := by decide +kernel
theorem d_M_post_94 : decode b_M_post 94 = .ok (.ifCond .eq 5, 3) := by decide +kernel
theorem d_M_post_97 : decode b_M_post 97 = .ok (.iconst 0, 1) := by decide +kernel
theorem d_M_post_98 : decode b_M_post 98 = .ok (.ireturn, 1) := by decide +kernel
theorem d_M_post_99 : decode b_M_post 99 = .ok (.aload_n 0, 1) := by decide +kernel
theorem d_M_post_100 : decode b_M_post 100 = .ok (.getfield 112, 3) := by decide +kernel
theorem d_M_post_103 : decode b_M_post 103 = .ok (.istore 6, 2) := by decide +kernel
theorem d_M_post_105 : decode b_M_post 105 = .ok (.aload_n 0, 1) := by decide +kernel
theorem d_M_post_106 : decode b_M_post 106 = .ok (.dup, 1) := by decide +kernel
theorem d_M_post_107 : decode b_M_post 107 = .ok (.getfield 112, 3) := by decide +kernel
theorem d_M_post_110 : decode b_M_post 110 = .ok (.iconst 1, 1) := by decide +kernel
theorem d_M_post_111 : decode b_M_post 111 = .ok (.iadd, 1) := by decide +kernel
theorem d_M_post_112 : decode b_M_post 112 = .ok (.putfield 112, 3) := by decide +kernel
theorem d_M_post_115 : decode b_M_post 115 = .ok (.aload_n 0, 1) := by decide +kernel
theorem d_M_post_116 : decode b_M_post 116 = .ok (.getfield 25, 3) := by decide +kernel
theorem d_M_post_119 : decode b_M_post 119 = .ok (.iload 6, 2) := by decide +kernel
theorem d_M_post_121 : decode b_M_post 121 = .ok (.aload_n 0, 1) := by decide +kernel
theorem d_M_post_122 : decode b_M_post 122 = .ok (.getfield 180, 3) := by decide +kernel
theorem d_M_post_125 : decode b_M_post 125 = .ok (.iastore, 1) := by decide +kernel
theorem d_M_post_126 : decode b_M_post 126 = .ok (.aload_n 0, 1) := by decide +kernel
theorem d_M_post_127 : decode b_M_post 127 = .ok (.getfield 28, 3) := by decide +kernel
theorem d_M_post_130 : decode b_M_post 130 = .ok (.iload 6, 2) := by decide +kernel
theorem d_M_post_132 : decode b_M_post 132 = .ok (.iload 4, 2) := by decide +kernel
theorem d_M_post_134 : decode b_M_post 134 = .ok (.iastore, 1) := by decide +kernel
theorem d_M_post_135 : decode b_M_post 135 = .ok (.aload_n 0, 1) := by decide +kernel
theorem d_M_post_136 : decode b_M_post 136 = .ok (.getfield 31, 3) := by decide +kernel
theorem d_M_post_139 : decode b_M_post 139 = .ok (.iload 6, 2) := by decide +kernel
theorem d_M_post_141 : decode b_M_post 141 = .ok (.iload_n 1, 1) := by decide +kernel
theorem d_M_post_142 : decode b_M_post 142 = .ok (.iastore, 1) := by decide +kernel
theorem d_M_post_143 : decode b_M_post 143 = .ok (.aload_n 0, 1) := by decide +kernel
theorem d_M_post_144 : decode b_M_post 144 = .ok (.getfield 34, 3) := by decide +kernel
theorem d_M_post_147 : decode b_M_post 147 = .ok (.iload 6, 2) := by decide +kernel
theorem d_M_post_149 : decode b_M_post 149 = .ok (.iload_n 2, 1) := by decide +kernel
theorem d_M_post_150 : decode b_M_post 150 = .ok (.iastore, 1) := by decide +kernel
theorem d_M_post_151 : decode b_M_post 151 = .ok (.aload_n 0, 1) := by decide +kernel
theorem d_M_post_152 : decode b_M_post 152 = .ok (.getfield 37, 3) := by decide +kernel
theorem d_M_post_155 : decode b_M_post 155 = .ok (.iload 6, 2) := by decide +kernel
theorem d_M_post_157 : decode b_M_post 157 = .ok (.iload_n 3, 1) := by decide +kernel
theorem d_M_post_158 : decode b_M_post 158 = .ok (.iastore, 1) := by decide +kernel
theorem d_M_post_159 : decode b_M_post 159 = .ok (.aload_n 0, 1) := by decide +kernel
theorem d_M_post_160 : decode b_M_post 160 = .ok (.getfield 40, 3) := by decide +kernel
theorem d_M_post_163 : decode b_M_post 163 = .ok (.iload 6, 2) := by decide +kernel
theorem d_M_post_165 : decode b_M_post 165 = .ok (.aload_n 0, 1) := by decide +kernel
theorem d_M_post_166 : decode b_M_post 166 = .ok (.getfield 186, 3) := by decide +kernel
theorem d_M_post_169 : decode b_M_post 169 = .ok (.iastore, 1) := by decide +kernel
theorem d_M_post_170 : decode b_M_post 170 = .ok (.aload_n 0, 1) := by decide +kernel
theorem d_M_post_171 : decode b_M_post 171 = .ok (.getfield 43, 3) := by decide +kernel
theorem d_M_post_174 : decode b_M_post 174 = .ok (.iload 6, 2) := by decide +kernel
theorem d_M_post_176 : decode b_M_post 176 = .ok (.iconst 0, 1) := by decide +kernel
theorem d_M_post_177 : decode b_M_post 177 = .ok (.iastore, 1) := by decide +kernel
theorem d_M_post_178 : decode b_M_post 178 = .ok (.iconst 0, 1) := by decide +kernel
theorem d_M_post_179 : decode b_M_post 179 = .ok (.istore 7, 2) := by decide +kernel
theorem d_M_post_181 : decode b_M_post 181 = .ok (.iload 7, 2) := by decide +kernel
theorem d_M_post_183 : decode b_M_post 183 = .ok (.aload_n 0, 1) := by decide +kernel
theorem d_M_post_184 : decode b_M_post 184 = .ok (.getfield 180, 3) := by decide +kernel
theorem d_M_post_187 : decode b_M_post 187 = .ok (.if_icmp .ge 86, 3) := by decide +kernel
theorem d_M_post_190 : decode b_M_post 190 = .ok (.aload_n 0, 1) := by decide +kernel
theorem d_M_post_191 : decode b_M_post 191 = .ok (.getfield 43, 3) := by decide +kernel
theorem d_M_post_194 : decode b_M_post 194 = .ok (.iload 6, 2) := by decide +kernel
theorem d_M_post_196 : decode b_M_post 196 = .ok (.aload_n 0, 1) := by decide +kernel
theorem d_M_post_197 : decode b_M_post 197 = .ok (.getfield 43, 3) := by decide +kernel
theorem d_M_post_200 : decode b_M_post 200 = .ok (.iload 6, 2) := by decide +kernel
theorem d_M_post_202 : decode b_M_post 202 = .ok (.iaload, 1) := by decide +kernel
theorem d_M_post_203 : decode b_M_post 203 = .ok (.invokestatic 157, 3) := by decide +kernel
theorem d_M_post_206 : decode b_M_post 206 = .ok (.aload_n 0, 1) := by decide +kernel
theorem d_M_post_207 : decode b_M_post 207 = .ok (.getfield 89, 3) := by decide +kernel
theorem d_M_post_210 : decode b_M_post 210 = .ok (.iload 7, 2) := by decide +kernel
theorem d_M_post_212 : decode b_M_post 212 = .ok (.iaload, 1) := by decide +kernel
theorem d_M_post_213 : decode b_M_post 213 = .ok (.ixor, 1) := by decide +kernel
theorem d_M_post_214 : decode b_M_post 214 = .ok (.iastore, 1) := by decide +kernel
theorem d_M_post_215 : decode b_M_post 215 = .ok (.iload_n 1, 1) := by decide +kernel
theorem d_M_post_216 : decode b_M_post 216 = .ok (.iload 6, 2) := by decide +kernel
theorem d_M_post_218 : decode b_M_post 218 = .ok (.iload 7, 2) := by decide +kernel
theorem d_M_post_220 : decode b_M_post 220 = .ok (.bipush 8, 2) := by decide +kernel
theorem d_M_post_222 : decode b_M_post 222 = .ok (.idiv, 1) := by decide +kernel
theorem d_M_post_223 : decode b_M_post 223 = .ok (.invokestatic 146, 3) := by decide +kernel
theorem d_M_post_226 : decode b_M_post 226 = .ok (.istore 8, 2) := by decide +kernel
theorem d_M_post_228 : decode b_M_post 228 = .ok (.aload_n 0, 1) := by decide +kernel
theorem d_M_post_229 : decode b_M_post 229 = .ok (.getfield 56, 3) := by decide +kernel
theorem d_M_post_232 : decode b_M_post 232 = .ok (.iload 8, 2) := by decide +kernel
theorem d_M_post_234 : decode b_M_post 234 = .ok (.iconst 1, 1) := by decide +kernel
theorem d_M_post_235 : decode b_M_post 235 = .ok (.bastore, 1) := by decide +kernel
theorem d_M_post_236 : decode b_M_post 236 = .ok (.aload_n 0, 1) := by decide +kernel
theorem d_M_post_237 : decode b_M_post 237 = .ok (.getfield 59, 3) := by decide +kernel
theorem d_M_post_240 : decode b_M_post 240 = .ok (.iload 8, 2) := by decide +kernel
theorem d_M_post_242 : decode b_M_post 242 = .ok (.iconst 0, 1) := by decide +kernel
theorem d_M_post_243 : decode b_M_post 243 = .ok (.iastore, 1) := by decide +kernel
theorem d_M_post_244 : decode b_M_post 244 = .ok (.aload_n 0, 1) := by decide +kernel
theorem d_M_post_245 : decode b_M_post 245 = .ok (.getfield 65, 3) := by decide +kernel
theorem d_M_post_248 : decode b_M_post 248 = .ok (.bipush 8, 2) := by decide +kernel
theorem d_M_post_250 : decode b_M_post 250 = .ok (.iload 8, 2) := by decide +kernel
theorem d_M_post_252 : decode b_M_post 252 = .ok (.imul, 1) := by decide +kernel
theorem d_M_post_253 : decode b_M_post 253 = .ok (.iload 7, 2) := by decide +kernel
theorem d_M_post_255 : decode b_M_post 255 = .ok (.bipush 8, 2) := by decide +kernel
theorem d_M_post_257 : decode b_M_post 257 = .ok (.irem, 1) := by decide +kernel
theorem d_M_post_258 : decode b_M_post 258 = .ok (.iadd, 1) := by decide +kernel
theorem d_M_post_259 : decode b_M_post 259 = .ok (.aload_n 0, 1) := by decide +kernel
theorem d_M_post_260 : decode b_M_post 260 = .ok (.getfield 89, 3) := by decide +kernel
theorem d_M_post_263 : decode b_M_post 263 = .ok (.iload 7, 2) := by decide +kernel
theorem d_M_post_265 : decode b_M_post 265 = .ok (.iaload, 1) := by decide +kernel
theorem d_M_post_266 : decode b_M_post 266 = .ok (.iastore, 1) := by decide +kernel
theorem d_M_post_267 : decode b_M_post 267 = .ok (.iinc 7 1, 3) := by decide +kernel
theorem d_M_post_270 : decode b_M_post 270 = .ok (.goto (-89), 3) := by decide +kernel
theorem d_M_post_273 : decode b_M_post 273 = .ok (.aload_n 0, 1) := by decide +kernel
theorem d_M_post_274 : decode b_M_post 274 = .ok (.iconst 0, 1) := by decide +kernel
theorem d_M_post_275 : decode b_M_post 275 = .ok (.putfield 180, 3) := by decide +kernel
theorem d_M_post_278 : decode b_M_post 278 = .ok (.aload_n 0, 1) := by decide +kernel
theorem d_M_post_279 : decode b_M_post 279 = .ok (.getfield 46, 3) := by decide +kernel
theorem d_M_post_282 : decode b_M_post 282 = .ok (.iload 6, 2) := by decide +kernel
theorem d_M_post_284 : decode b_M_post 284 = .ok (.aload_n 0, 1) := by decide +kernel
theorem d_M_post_285 : decode b_M_post 285 = .ok (.aload_n 0, 1) := by decide +kernel
theorem d_M_post_286 : decode b_M_post 286 = .ok (.getfield 22, 3) := by decide +kernel
theorem d_M_post_289 : decode b_M_post 289 = .ok (.iload_n 1, 1) := by decide +kernel
theorem d_M_post_290 : decode b_M_post 290 = .ok (.iaload, 1) := by decide +kernel
theorem d_M_post_291 : decode b_M_post 291 = .ok (.iload_n 2, 1) := by decide +kernel
theorem d_M_post_292 : decode b_M_post 292 = .ok (.iload_n 1, 1) := by decide +kernel
theorem d_M_post_293 : decode b_M_post 293 = .ok (.aload_n 0, 1) := by decide +kernel
theorem d_M_post_294 : decode b_M_post 294 = .ok (.getfield 186, 3) := by decide +kernel
theorem d_M_post_297 : decode b_M_post 297 = .ok (.invokevirtual 142, 3) := by decide +kernel
theorem d_M_post_300 : decode b_M_post 300 = .ok (.iastore, 1) := by decide +kernel
theorem d_M_post_301 : decode b_M_post 301 = .ok (.aload_n 0, 1) := by decide +kernel
theorem d_M_post_302 : decode b_M_post 302 = .ok (.iload 6, 2) := by decide +kernel
theorem d_M_post_304 : decode b_M_post 304 = .ok (.invokevirtual 173, 3) := by decide +kernel
theorem d_M_post_307 : decode b_M_post 307 = .ok (.iload 6, 2) := by decide +kernel
theorem d_M_post_309 : decode b_M_post 309 = .ok (.ireturn, 1) := by decide +kernel
theorem d_M_expire_0 : decode b_M_expire 0 = .ok (.aload_n 0, 1) := by decide +kernel
theorem d_M_expire_1 : decode b_M_expire 1 = .ok (.getfield 49, 3) := by decide +kernel
theorem d_M_expire_4 : decode b_M_expire 4 = .ok (.iload_n 1, 1) := by decide +kernel
theorem d_M_expire_5 : decode b_M_expire 5 = .ok (.aload_n 0, 1) := by decide +kernel
theorem d_M_expire_6 : decode b_M_expire 6 = .ok (.getfield 68, 3) := by decide +kernel
theorem d_M_expire_9 : decode b_M_expire 9 = .ok (.bipush 16, 2) := by decide +kernel
theorem d_M_expire_11 : decode b_M_expire 11 = .ok (.aload_n 0, 1) := by decide +kernel
theorem d_M_expire_12 : decode b_M_expire 12 = .ok (.getfield 34, 3) := by decide +kernel
theorem d_M_expire_15 : decode b_M_expire 15 = .ok (.iload_n 1, 1) := by decide +kernel
theorem d_M_expire_16 : decode b_M_expire 16 = .ok (.iaload, 1) := by decide +kernel
theorem d_M_expire_17 : decode b_M_expire 17 = .ok (.imul, 1) := by decide +kernel
theorem d_M_expire_18 : decode b_M_expire 18 = .ok (.iload_n 1, 1) := by decide +kernel
theorem d_M_expire_19 : decode b_M_expire 19 = .ok (.iadd, 1) := by decide +kernel
theorem d_M_expire_20 : decode b_M_expire 20 = .ok (.iaload, 1) := by decide +kernel
theorem d_M_expire_21 : decode b_M_expire 21 = .ok (.ifCond .ne 7, 3) := by decide +kernel
theorem d_M_expire_24 : decode b_M_expire 24 = .ok (.iconst 1, 1) := by decide +kernel
theorem d_M_expire_25 : decode b_M_expire 25 = .ok (.goto 4, 3) := by decide +kernel
theorem d_M_expire_28 : decode b_M_expire 28 = .ok (.iconst 0, 1) := by decide +kernel
theorem d_M_expire_29 : decode b_M_expire 29 = .ok (.bastore, 1) := by decide +kernel
theorem d_M_expire_30 : decode b_M_expire 30 = .ok (.iconst 0, 1) := by decide +kernel
theorem d_M_expire_31 : decode b_M_expire 31 = .ok (.istore_n 2, 1) := by decide +kernel
theorem d_M_expire_32 : decode b_M_expire 32 = .ok (.iload_n 2, 1) := by decide +kernel
theorem d_M_expire_33 : decode b_M_expire 33 = .ok (.bipush 12, 2) := by decide +kernel
theorem d_M_expire_35 : decode b_M_expire 35 = .ok (.if_icmp .ge 79, 3) := by decide +kernel
theorem d_M_expire_38 : decode b_M_expire 38 = .ok (.iconst 0, 1) := by decide +kernel
theorem d_M_expire_39 : decode b_M_expire 39 = .ok (.istore_n 3, 1) := by decide +kernel
theorem d_M_expire_40 : decode b_M_expire 40 = .ok (.iconst 0, 1) := by decide +kernel
theorem d_M_expire_41 : decode b_M_expire 41 = .ok (.istore 4, 2) := by decide +kernel
theorem d_M_expire_43 : decode b_M_expire 43 = .ok (.iload 4, 2) := by decide +kernel
theorem d_M_expire_45 : decode b_M_expire 45 = .ok (.iconst 4, 1) := by decide +kernel
theorem d_M_expire_46 : decode b_M_expire 46 = .ok (.if_icmp .ge 39, 3) := by decide +kernel
theorem d_M_expire_49 : decode b_M_expire 49 = .ok (.aload_n 0, 1) := by decide +kernel
theorem d_M_expire_50 : decode b_M_expire 50 = .ok (.getfield 56, 3) := by decide +kernel
theorem d_M_expire_53 : decode b_M_expire 53 = .ok (.iload_n 2, 1) := by decide +kernel
theorem d_M_expire_54 : decode b_M_expire 54 = .ok (.iload_n 1, 1) := by decide +kernel
theorem d_M_expire_55 : decode b_M_expire 55 = .ok (.iload 4, 2) := by decide +kernel
theorem d_M_expire_57 : decode b_M_expire 57 = .ok (.invokestatic 146, 3) := by decide +kernel
theorem d_M_expire_60 : decode b_M_expire 60 = .ok (.baload, 1) := by decide +kernel
theorem d_M_expire_61 : decode b_M_expire 61 = .ok (.ifCond .eq 5, 3) := by decide +kernel
theorem d_M_expire_64 : decode b_M_expire 64 = .ok (.iconst 1, 1) := by decide +kernel
theorem d_M_expire_65 : decode b_M_expire 65 = .ok (.istore_n 3, 1) := by decide +kernel
theorem d_M_expire_66 : decode b_M_expire 66 = .ok (.aload_n 0, 1) := by decide +kernel
theorem d_M_expire_67 : decode b_M_expire 67 = .ok (.getfield 56, 3) := by decide +kernel
theorem d_M_expire_70 : decode b_M_expire 70 = .ok (.iload_n 2, 1) := by decide +kernel
theorem d_M_expire_71 : decode b_M_expire 71 = .ok (.iload_n 1, 1) := by decide +kernel
theorem d_M_expire_72 : decode b_M_expire 72 = .ok (.iload 4, 2) := by decide +kernel
theorem d_M_expire_74 : decode b_M_expire 74 = .ok (.invokestatic 146, 3) := by decide +kernel
theorem d_M_expire_77 : decode b_M_expire 77 = .ok (.iconst 0, 1) := by decide +kernel
theorem d_M_expire_78 : decode b_M_expire 78 = .ok (.bastore, 1) := by decide +kernel
theorem d_M_expire_79 : decode b_M_expire 79 = .ok (.iinc 4 1, 3) := by decide +kernel
theorem d_M_expire_82 : decode b_M_expire 82 = .ok (.goto (-39), 3) := by decide +kernel
theorem d_M_expire_85 : decode b_M_expire 85 = .ok (.iload_n 3, 1) := by decide +kernel
theorem d_M_expire_86 : decode b_M_expire 86 = .ok (.ifCond .eq 22, 3) := by decide +kernel
theorem d_M_expire_89 : decode b_M_expire 89 = .ok (.aload_n 0, 1) := by decide +kernel
theorem d_M_expire_90 : decode b_M_expire 90 = .ok (.getfield 49, 3) := by decide +kernel
theorem d_M_expire_93 : decode b_M_expire 93 = .ok (.iload_n 1, 1) := by decide +kernel
theorem d_M_expire_94 : decode b_M_expire 94 = .ok (.baload, 1) := by decide +kernel
theorem d_M_expire_95 : decode b_M_expire 95 = .ok (.ifCond .eq 13, 3) := by decide +kernel
theorem d_M_expire_98 : decode b_M_expire 98 = .ok (.aload_n 0, 1) := by decide +kernel
theorem d_M_expire_99 : decode b_M_expire 99 = .ok (.getfield 71, 3) := by decide +kernel
theorem d_M_expire_102 : decode b_M_expire 102 = .ok (.iload_n 2, 1) := by decide +kernel
theorem d_M_expire_103 : decode b_M_expire 103 = .ok (.dup2, 1) := by decide +kernel
theorem d_M_expire_104 : decode b_M_expire 104 = .ok (.iaload, 1) := by decide +kernel
theorem d_M_expire_105 : decode b_M_expire 105 = .ok (.iconst 1, 1) := by decide +kernel
theorem d_M_expire_106 : decode b_M_expire 106 = .ok (.iadd, 1) := by decide +kernel
theorem d_M_expire_107 : decode b_M_expire 107 = .ok (.iastore, 1) := by decide +kernel
theorem d_M_expire_108 : decode b_M_expire 108 = .ok (.iinc 2 1, 3) := by decide +kernel
theorem d_M_expire_111 : decode b_M_expire 111 = .ok (.goto (-79), 3) := by decide +kernel
theorem d_M_expire_114 : decode b_M_expire 114 = .ok (.return_, 1) := by decide +kernel
theorem d_M_minute_0 : decode b_M_minute 0 = .ok (.aload_n 0, 1) := by decide +kernel
theorem d_M_minute_1 : decode b_M_minute 1 = .ok (.iload_n 1, 1) := by decide +kernel
theorem d_M_minute_2 : decode b_M_minute 2 = .ok (.iconst 1, 1) := by decide +kernel
theorem d_M_minute_3 : decode b_M_minute 3 = .ok (.if_icmp .lt 14, 3) := by decide +kernel
theorem d_M_minute_6 : decode b_M_minute 6 = .ok (.iload_n 1, 1) := by decide +kernel
theorem d_M_minute_7 : decode b_M_minute 7 = .ok (.sipush 20000, 3) := by decide +kernel
theorem d_M_minute_10 : decode b_M_minute 10 = .ok (.if_icmp .gt 7, 3) := by decide +kernel
theorem d_M_minute_13 : decode b_M_minute 13 = .ok (.iconst 0, 1) := by decide +kernel
theorem d_M_minute_14 : decode b_M_minute 14 = .ok (.goto 4, 3) := by decide +kernel
theorem d_M_minute_17 : decode b_M_minute 17 = .ok (.iconst 1, 1) := by decide +kernel
theorem d_M_minute_18 : decode b_M_minute 18 = .ok (.putfield 104, 3) := by decide +kernel
theorem d_M_minute_21 : decode b_M_minute 21 = .ok (.aload_n 0, 1) := by decide +kernel
theorem d_M_minute_22 : decode b_M_minute 22 = .ok (.getfield 104, 3) := by decide +kernel
theorem d_M_minute_25 : decode b_M_minute 25 = .ok (.ifCond .eq 5, 3) := by decide +kernel
theorem d_M_minute_28 : decode b_M_minute 28 = .ok (.iconst 0, 1) := by decide +kernel
theorem d_M_minute_29 : decode b_M_minute 29 = .ok (.ireturn, 1) := by decide +kernel
theorem d_M_minute_30 : decode b_M_minute 30 = .ok (.iconst 0, 1) := by decide +kernel
theorem d_M_minute_31 : decode b_M_minute 31 = .ok (.istore_n 2, 1) := by decide +kernel
theorem d_M_minute_32 : decode b_M_minute 32 = .ok (.iload_n 2, 1) := by decide +kernel
theorem d_M_minute_33 : decode b_M_minute 33 = .ok (.iload_n 1, 1) := by decide +kernel
theorem d_M_minute_34 : decode b_M_minute 34 = .ok (.if_icmp .ge 78, 3) := by decide +kernel
theorem d_M_minute_37 : decode b_M_minute 37 = .ok (.aload_n 0, 1) := by decide +kernel
theorem d_M_minute_38 : decode b_M_minute 38 = .ok (.dup, 1) := by decide +kernel
theorem d_M_minute_39 : decode b_M_minute 39 = .ok (.getfield 186, 3) := by decide +kernel
theorem d_M_minute_42 : decode b_M_minute 42 = .ok (.iconst 1, 1) := by decide +kernel
theorem d_M_minute_43 : decode b_M_minute 43 = .ok (.iadd, 1) := by decide +kernel
theorem d_M_minute_44 : decode b_M_minute 44 = .ok (.putfield 186, 3) := by decide +kernel
theorem d_M_minute_47 : decode b_M_minute 47 = .ok (.iconst 0, 1) := by decide +kernel
theorem d_M_minute_48 : decode b_M_minute 48 = .ok (.istore_n 3, 1) := by decide +kernel
theorem d_M_minute_49 : decode b_M_minute 49 = .ok (.iload_n 3, 1) := by decide +kernel
theorem d_M_minute_50 : decode b_M_minute 50 = .ok (.aload_n 0, 1) := by decide +kernel
theorem d_M_minute_51 : decode b_M_minute 51 = .ok (.getfield 112, 3) := by decide +kernel
theorem d_M_minute_54 : decode b_M_minute 54 = .ok (.if_icmp .ge 31, 3) := by decide +kernel
theorem d_M_minute_57 : decode b_M_minute 57 = .ok (.aload_n 0, 1) := by decide +kernel
theorem d_M_minute_58 : decode b_M_minute 58 = .ok (.getfield 40, 3) := by decide +kernel
theorem d_M_minute_61 : decode b_M_minute 61 = .ok (.iload_n 3, 1) := by decide +kernel
theorem d_M_minute_62 : decode b_M_minute 62 = .ok (.iaload, 1) := by decide +kernel
theorem d_M_minute_63 : decode b_M_minute 63 = .ok (.sipush 7200, 3) := by decide +kernel
theorem d_M_minute_66 : decode b_M_minute 66 = .ok (.iadd, 1) := by decide +kernel
theorem d_M_minute_67 : decode b_M_minute 67 = .ok (.aload_n 0, 1) := by decide +kernel
theorem d_M_minute_68 : decode b_M_minute 68 = .ok (.getfield 186, 3) := by decide +kernel
theorem d_M_minute_71 : decode b_M_minute 71 = .ok (.if_icmp .ne 8, 3) := by decide +kernel
theorem d_M_minute_74 : decode b_M_minute 74 = .ok (.aload_n 0, 1) := by decide +kernel
theorem d_M_minute_75 : decode b_M_minute 75 = .ok (.iload_n 3, 1) := by decide +kernel
theorem d_M_minute_76 : decode b_M_minute 76 = .ok (.invokevirtual 189, 3) := by decide +kernel
theorem d_M_minute_79 : decode b_M_minute 79 = .ok (.iinc 3 1, 3) := by decide +kernel
theorem d_M_minute_82 : decode b_M_minute 82 = .ok (.goto (-33), 3) := by decide +kernel
theorem d_M_minute_85 : decode b_M_minute 85 = .ok (.iconst 0, 1) := by decide +kernel
theorem d_M_minute_86 : decode b_M_minute 86 = .ok (.istore_n 3, 1) := by decide +kernel
theorem d_M_minute_87 : decode b_M_minute 87 = .ok (.iload_n 3, 1) := by decide +kernel
theorem d_M_minute_88 : decode b_M_minute 88 = .ok (.aload_n 0, 1) := by decide +kernel
theorem d_M_minute_89 : decode b_M_minute 89 = .ok (.getfield 112, 3) := by decide +kernel
theorem d_M_minute_92 : decode b_M_minute 92 = .ok (.if_icmp .ge 14, 3) := by decide +kernel
theorem d_M_minute_95 : decode b_M_minute 95 = .ok (.aload_n 0, 1) := by decide +kernel
theorem d_M_minute_96 : decode b_M_minute 96 = .ok (.iload_n 3, 1) := by decide +kernel
theorem d_M_minute_97 : decode b_M_minute 97 = .ok (.invokevirtual 173, 3) := by decide +kernel
theorem d_M_minute_100 : decode b_M_minute 100 = .ok (.iinc 3 1, 3) := by decide +kernel
theorem d_M_minute_103 : decode b_M_minute 103 = .ok (.goto (-16), 3) := by decide +kernel
theorem d_M_minute_106 : decode b_M_minute 106 = .ok (.iinc 2 1, 3) := by decide +kernel
theorem d_M_minute_109 : decode b_M_minute 109 = .ok (.goto (-77), 3) := by decide +kernel
theorem d_M_minute_112 : decode b_M_minute 112 = .ok (.aload_n 0, 1) := by decide +kernel
theorem d_M_minute_113 : decode b_M_minute 113 = .ok (.getfield 186, 3) := by decide +kernel
theorem d_M_minute_116 : decode b_M_minute 116 = .ok (.ireturn, 1) := by decide +kernel
theorem d_M_exchangeNews_0 : decode b_M_exchangeNews 0 = .ok (.aload_n 0, 1) := by decide +kernel
theorem d_M_exchangeNews_1 : decode b_M_exchangeNews 1 = .ok (.getfield 22, 3) := by decide +kernel
theorem d_M_exchangeNews_4 : decode b_M_exchangeNews 4 = .ok (.iload_n 1, 1) := by decide +kernel
theorem d_M_exchangeNews_5 : decode b_M_exchangeNews 5 = .ok (.iaload, 1) := by decide +kernel
theorem d_M_exchangeNews_6 : decode b_M_exchangeNews 6 = .ok (.aload_n 0, 1) := by decide +kernel
theorem d_M_exchangeNews_7 : decode b_M_exchangeNews 7 = .ok (.getfield 22, 3) := by decide +kernel
theorem d_M_exchangeNews_10 : decode b_M_exchangeNews 10 = .ok (.iload_n 2, 1) := by decide +kernel
theorem d_M_exchangeNews_11 : decode b_M_exchangeNews 11 = .ok (.iaload, 1) := by decide +kernel
theorem d_M_exchangeNews_12 : decode b_M_exchangeNews 12 = .ok (.if_icmp .le 12, 3) := by decide +kernel
theorem d_M_exchangeNews_15 : decode b_M_exchangeNews 15 = .ok (.aload_n 0, 1) := by decide +kernel
theorem d_M_exchangeNews_16 : decode b_M_exchangeNews 16 = .ok (.getfield 22, 3) := by decide +kernel
theorem d_M_exchangeNews_19 : decode b_M_exchangeNews 19 = .ok (.iload_n 1, 1) := by decide +kernel
theorem d_M_exchangeNews_20 : decode b_M_exchangeNews 20 = .ok (.iaload, 1) := by decide +kernel
theorem d_M_exchangeNews_21 : decode b_M_exchangeNews 21 = .ok (.goto 9, 3) := by decide +kernel
theorem d_M_exchangeNews_24 : decode b_M_exchangeNews 24 = .ok (.aload_n 0, 1) := by decide +kernel
theorem d_M_exchangeNews_25 : decode b_M_exchangeNews 25 = .ok (.getfield 22, 3) := by decide +kernel
theorem d_M_exchangeNews_28 : decode b_M_exchangeNews 28 = .ok (.iload_n 2, 1) := by decide +kernel
theorem d_M_exchangeNews_29 : decode b_M_exchangeNews 29 = .ok (.iaload, 1) := by decide +kernel
theorem d_M_exchangeNews_30 : decode b_M_exchangeNews 30 = .ok (.istore_n 3, 1) := by decide +kernel
theorem d_M_exchangeNews_31 : decode b_M_exchangeNews 31 = .ok (.aload_n 0, 1) := by decide +kernel
theorem d_M_exchangeNews_32 : decode b_M_exchangeNews 32 = .ok (.getfield 22, 3) := by decide +kernel
theorem d_M_exchangeNews_35 : decode b_M_exchangeNews 35 = .ok (.iload_n 1, 1) := by decide +kernel
theorem d_M_exchangeNews_36 : decode b_M_exchangeNews 36 = .ok (.iload_n 3, 1) := by decide +kernel
theorem d_M_exchangeNews_37 : decode b_M_exchangeNews 37 = .ok (.iastore, 1) := by decide +kernel
theorem d_M_exchangeNews_38 : decode b_M_exchangeNews 38 = .ok (.aload_n 0, 1) := by decide +kernel
theorem d_M_exchangeNews_39 : decode b_M_exchangeNews 39 = .ok (.getfield 22, 3) := by decide +kernel
theorem d_M_exchangeNews_42 : decode b_M_exchangeNews 42 = .ok (.iload_n 2, 1) := by decide +kernel
theorem d_M_exchangeNews_43 : decode b_M_exchangeNews 43 = .ok (.iload_n 3, 1) := by decide +kernel
theorem d_M_exchangeNews_44 : decode b_M_exchangeNews 44 = .ok (.iastore, 1) := by decide +kernel
theorem d_M_exchangeNews_45 : decode b_M_exchangeNews 45 = .ok (.iconst 0, 1) := by decide +kernel
theorem d_M_exchangeNews_46 : decode b_M_exchangeNews 46 = .ok (.istore 4, 2) := by decide +kernel
theorem d_M_exchangeNews_48 : decode b_M_exchangeNews 48 = .ok (.iload 4, 2) := by decide +kernel
theorem d_M_exchangeNews_50 : decode b_M_exchangeNews 50 = .ok (.bipush 64, 2) := by decide +kernel
theorem d_M_exchangeNews_52 : decode b_M_exchangeNews 52 = .ok (.if_icmp .ge 87, 3) := by decide +kernel
theorem d_M_exchangeNews_55 : decode b_M_exchangeNews 55 = .ok (.aload_n 0, 1) := by decide +kernel
theorem d_M_exchangeNews_56 : decode b_M_exchangeNews 56 = .ok (.getfield 62, 3) := by decide +kernel
theorem d_M_exchangeNews_59 : decode b_M_exchangeNews 59 = .ok (.bipush 64, 2) := by decide +kernel
theorem d_M_exchangeNews_61 : decode b_M_exchangeNews 61 = .ok (.iload_n 1, 1) := by decide +kernel
theorem d_M_exchangeNews_62 : decode b_M_exchangeNews 62 = .ok (.imul, 1) := by decide +kernel
theorem d_M_exchangeNews_63 : decode b_M_exchangeNews 63 = .ok (.iload 4, 2) := by decide +kernel
theorem d_M_exchangeNews_65 : decode b_M_exchangeNews 65 = .ok (.iadd, 1) := by decide +kernel
theorem d_M_exchangeNews_66 : decode b_M_exchangeNews 66 = .ok (.iaload, 1) := by decide +kernel
theorem d_M_exchangeNews_67 : decode b_M_exchangeNews 67 = .ok (.istore 5, 2) := by decide +kernel
theorem d_M_exchangeNews_69 : decode b_M_exchangeNews 69 = .ok (.aload_n 0, 1) := by decide +kernel
theorem d_M_exchangeNews_70 : decode b_M_exchangeNews 70 = .ok (.getfield 62, 3) := by decide +kernel
theorem d_M_exchangeNews_73 : decode b_M_exchangeNews 73 = .ok (.bipush 64, 2) := by decide +kernel
theorem d_M_exchangeNews_75 : decode b_M_exchangeNews 75 = .ok (.iload_n 2, 1) := by decide +kernel
theorem d_M_exchangeNews_76 : decode b_M_exchangeNews 76 = .ok (.imul, 1) := by decide +kernel
theorem d_M_exchangeNews_77 : decode b_M_exchangeNews 77 = .ok (.iload 4, 2) := by decide +kernel
theorem d_M_exchangeNews_79 : decode b_M_exchangeNews 79 = .ok (.iadd, 1) := by decide +kernel
theorem d_M_exchangeNews_80 : decode b_M_exchangeNews 80 = .ok (.iaload, 1) := by decide +kernel
theorem d_M_exchangeNews_81 : decode b_M_exchangeNews 81 = .ok (.istore 6, 2) := by decide +kernel
theorem d_M_exchangeNews_83 : decode b_M_exchangeNews 83 = .ok (.aload_n 0, 1) := by decide +kernel
theorem d_M_exchangeNews_84 : decode b_M_exchangeNews 84 = .ok (.bipush 64, 2) := by decide +kernel
theorem d_M_exchangeNews_86 : decode b_M_exchangeNews 86 = .ok (.iload_n 1, 1) := by decide +kernel
theorem d_M_exchangeNews_87 : decode b_M_exchangeNews 87 = .ok (.imul, 1) := by decide +kernel
theorem d_M_exchangeNews_88 : decode b_M_exchangeNews 88 = .ok (.iload 4, 2) := by decide +kernel
theorem d_M_exchangeNews_90 : decode b_M_exchangeNews 90 = .ok (.iadd, 1) := by decide +kernel
theorem d_M_exchangeNews_91 : decode b_M_exchangeNews 91 = .ok (.iload 5, 2) := by decide +kernel
theorem d_M_exchangeNews_93 : decode b_M_exchangeNews 93 = .ok (.iload 6, 2) := by decide +kernel
theorem d_M_exchangeNews_95 : decode b_M_exchangeNews 95 = .ok (.if_icmp .le 8, 3) := by decide +kernel
theorem d_M_exchangeNews_98 : decode b_M_exchangeNews 98 = .ok (.iload 5, 2) := by decide +kernel
theorem d_M_exchangeNews_100 : decode b_M_exchangeNews 100 = .ok (.goto 5, 3) := by decide +kernel
theorem d_M_exchangeNews_103 : decode b_M_exchangeNews 103 = .ok (.iload 6, 2) := by decide +kernel
theorem d_M_exchangeNews_105 : decode b_M_exchangeNews 105 = .ok (.invokevirtual 192, 3) := by decide +kernel
theorem d_M_exchangeNews_108 : decode b_M_exchangeNews 108 = .ok (.aload_n 0, 1) := by decide +kernel
theorem d_M_exchangeNews_109 : decode b_M_exchangeNews 109 = .ok (.bipush 64, 2) := by decide +kernel
theorem d_M_exchangeNews_111 : decode b_M_exchangeNews 111 = .ok (.iload_n 2, 1) := by decide +kernel
theorem d_M_exchangeNews_112 : decode b_M_exchangeNews 112 = .ok (.imul, 1) := by decide +kernel
theorem d_M_exchangeNews_113 : decode b_M_exchangeNews 113 = .ok (.iload 4, 2) := by decide +kernel
theorem d_M_exchangeNews_115 : decode b_M_exchangeNews 115 = .ok (.iadd, 1) := by decide +kernel
theorem d_M_exchangeNews_116 : decode b_M_exchangeNews 116 = .ok (.iload 5, 2) := by decide +kernel
theorem d_M_exchangeNews_118 : decode b_M_exchangeNews 118 = .ok (.iload 6, 2) := by decide +kernel
theorem d_M_exchangeNews_120 : decode b_M_exchangeNews 120 = .ok (.if_icmp .le 8, 3) := by decide +kernel
theorem d_M_exchangeNews_123 : decode b_M_exchangeNews 123 = .ok (.iload 5, 2) := by decide +kernel
theorem d_M_exchangeNews_125 : decode b_M_exchangeNews 125 = .ok (.goto 5, 3) := by decide +kernel
theorem d_M_exchangeNews_128 : decode b_M_exchangeNews 128 = .ok (.iload 6, 2) := by decide +kernel
theorem d_M_exchangeNews_130 : decode b_M_exchangeNews 130 = .ok (.invokevirtual 192, 3) := by decide +kernel
theorem d_M_exchangeNews_133 : decode b_M_exchangeNews 133 = .ok (.iinc 4 1, 3) := by decide +kernel
theorem d_M_exchangeNews_136 : decode b_M_exchangeNews 136 = .ok (.goto (-88), 3) := by decide +kernel
theorem d_M_exchangeNews_139 : decode b_M_exchangeNews 139 = .ok (.iconst 0, 1) := by decide +kernel
theorem d_M_exchangeNews_140 : decode b_M_exchangeNews 140 = .ok (.istore 4, 2) := by decide +kernel
theorem d_M_exchangeNews_142 : decode b_M_exchangeNews 142 = .ok (.iload 4, 2) := by decide +kernel
theorem d_M_exchangeNews_144 : decode b_M_exchangeNews 144 = .ok (.aload_n 0, 1) := by decide +kernel
theorem d_M_exchangeNews_145 : decode b_M_exchangeNews 145 = .ok (.getfield 112, 3) := by decide +kernel
theorem d_M_exchangeNews_148 : decode b_M_exchangeNews 148 = .ok (.if_icmp .ge 90, 3) := by decide +kernel
theorem d_M_exchangeNews_151 : decode b_M_exchangeNews 151 = .ok (.aload_n 0, 1) := by decide +kernel
theorem d_M_exchangeNews_152 : decode b_M_exchangeNews 152 = .ok (.getfield 68, 3) := by decide +kernel
theorem d_M_exchangeNews_155 : decode b_M_exchangeNews 155 = .ok (.bipush 16, 2) := by decide +kernel
theorem d_M_exchangeNews_157 : decode b_M_exchangeNews 157 = .ok (.iload_n 1, 1) := by decide +kernel
theorem d_M_exchangeNews_158 : decode b_M_exchangeNews 158 = .ok (.imul, 1) := by decide +kernel
theorem d_M_exchangeNews_159 : decode b_M_exchangeNews 159 = .ok (.iload 4, 2) := by decide +kernel
theorem d_M_exchangeNews_161 : decode b_M_exchangeNews 161 = .ok (.iadd, 1) := by decide +kernel
theorem d_M_exchangeNews_162 : decode b_M_exchangeNews 162 = .ok (.iaload, 1) := by decide +kernel
theorem d_M_exchangeNews_163 : decode b_M_exchangeNews 163 = .ok (.istore 5, 2) := by decide +kernel
theorem d_M_exchangeNews_165 : decode b_M_exchangeNews 165 = .ok (.aload_n 0, 1) := by decide +kernel
theorem d_M_exchangeNews_166 : decode b_M_exchangeNews 166 = .ok (.getfield 68, 3) := by decide +kernel
theorem d_M_exchangeNews_169 : decode b_M_exchangeNews 169 = .ok (.bipush 16, 2) := by decide +kernel
theorem d_M_exchangeNews_171 : decode b_M_exchangeNews 171 = .ok (.iload_n 2, 1) := by decide +kernel
theorem d_M_exchangeNews_172 : decode b_M_exchangeNews 172 = .ok (.imul, 1) := by decide +kernel
theorem d_M_exchangeNews_173 : decode b_M_exchangeNews 173 = .ok (.iload 4, 2) := by decide +kernel
theorem d_M_exchangeNews_175 : decode b_M_exchangeNews 175 = .ok (.iadd, 1) := by decide +kernel
theorem d_M_exchangeNews_176 : decode b_M_exchangeNews 176 = .ok (.iaload, 1) := by decide +kernel
theorem d_M_exchangeNews_177 : decode b_M_exchangeNews 177 = .ok (.istore 6, 2) := by decide +kernel
theorem d_M_exchangeNews_179 : decode b_M_exchangeNews 179 = .ok (.iload 5, 2) := by decide +kernel
theorem d_M_exchangeNews_181 : decode b_M_exchangeNews 181 = .ok (.iconst 1, 1) := by decide +kernel
theorem d_M_exchangeNews_182 : decode b_M_exchangeNews 182 = .ok (.if_icmp .eq 9, 3) := by decide +kernel
theorem d_M_exchangeNews_185 : decode b_M_exchangeNews 185 = .ok (.iload 6, 2) := by decide +kernel
theorem d_M_exchangeNews_187 : decode b_M_exchangeNews 187 = .ok (.iconst 1, 1) := by decide +kernel
theorem d_M_exchangeNews_188 : decode b_M_exchangeNews 188 = .ok (.if_icmp .ne 7, 3) := by decide +kernel
theorem d_M_exchangeNews_191 : decode b_M_exchangeNews 191 = .ok (.iconst 1, 1) := by decide +kernel
theorem d_M_exchangeNews_192 : decode b_M_exchangeNews 192 = .ok (.goto 20, 3) := by decide +kernel
theorem d_M_exchangeNews_195 : decode b_M_exchangeNews 195 = .ok (.iload 5, 2) := by decide +kernel
theorem d_M_exchangeNews_197 : decode b_M_exchangeNews 197 = .ok (.iconst 2, 1) := by decide +kernel
theorem d_M_exchangeNews_198 : decode b_M_exchangeNews 198 = .ok (.if_icmp .eq 9, 3) := by decide +kernel
theorem d_M_exchangeNews_201 : decode b_M_exchangeNews 201 = .ok (.iload 6, 2) := by decide +kernel
theorem d_M_exchangeNews_203 : decode b_M_exchangeNews 203 = .ok (.iconst 2, 1) := by decide +kernel
theorem d_M_exchangeNews_204 : decode b_M_exchangeNews 204 = .ok (.if_icmp .ne 7, 3) := by decide +kernel
theorem d_M_exchangeNews_207 : decode b_M_exchangeNews 207 = .ok (.iconst 2, 1) := by decide +kernel
theorem d_M_exchangeNews_208 : decode b_M_exchangeNews 208 = .ok (.goto 4, 3) := by decide +kernel
theorem d_M_exchangeNews_211 : decode b_M_exchangeNews 211 = .ok (.iconst 0, 1) := by decide +kernel
theorem d_M_exchangeNews_212 : decode b_M_exchangeNews 212 = .ok (.istore 7, 2) := by decide +kernel
theorem d_M_exchangeNews_214 : decode b_M_exchangeNews 214 = .ok (.aload_n 0, 1) := by decide +kernel
theorem d_M_exchangeNews_215 : decode b_M_exchangeNews 215 = .ok (.iload_n 1, 1) := by decide +kernel
theorem d_M_exchangeNews_216 : decode b_M_exchangeNews 216 = .ok (.iload 4, 2) := by decide +kernel
theorem d_M_exchangeNews_218 : decode b_M_exchangeNews 218 = .ok (.iload 7, 2) := by decide +kernel
theorem d_M_exchangeNews_220 : decode b_M_exchangeNews 220 = .ok (.invokevirtual 163, 3) := by decide +kernel
theorem d_M_exchangeNews_223 : decode b_M_exchangeNews 223 = .ok (.aload_n 0, 1) := by decide +kernel
theorem d_M_exchangeNews_224 : decode b_M_exchangeNews 224 = .ok (.iload_n 2, 1) := by decide +kernel
theorem d_M_exchangeNews_225 : decode b_M_exchangeNews 225 = .ok (.iload 4, 2) := by decide +kernel
theorem d_M_exchangeNews_227 : decode b_M_exchangeNews 227 = .ok (.iload 7, 2) := by decide +kernel
theorem d_M_exchangeNews_229 : decode b_M_exchangeNews 229 = .ok (.invokevirtual 163, 3) := by decide +kernel
theorem d_M_exchangeNews_232 : decode b_M_exchangeNews 232 = .ok (.iinc 4 1, 3) := by decide +kernel
theorem d_M_exchangeNews_235 : decode b_M_exchangeNews 235 = .ok (.goto (-93), 3) := by decide +kernel
theorem d_M_exchangeNews_238 : decode b_M_exchangeNews 238 = .ok (.return_, 1) := by decide +kernel
theorem d_M_settle_0 : decode b_M_settle 0 = .ok (.iconst 0, 1) := by decide +kernel
theorem d_M_settle_1 : decode b_M_settle 1 = .ok (.istore_n 3, 1) := by decide +kernel
theorem d_M_settle_2 : decode b_M_settle 2 = .ok (.iload_n 3, 1) := by decide +kernel
theorem d_M_settle_3 : decode b_M_settle 3 = .ok (.aload_n 0, 1) := by decide +kernel
theorem d_M_settle_4 : decode b_M_settle 4 = .ok (.getfield 112, 3) := by decide +kernel
theorem d_M_settle_7 : decode b_M_settle 7 = .ok (.if_icmp .ge 221, 3) := by decide +kernel
theorem d_M_settle_10 : decode b_M_settle 10 = .ok (.aload_n 0, 1) := by decide +kernel
theorem d_M_settle_11 : decode b_M_settle 11 = .ok (.aload_n 0, 1) := by decide +kernel
theorem d_M_settle_12 : decode b_M_settle 12 = .ok (.getfield 22, 3) := by decide +kernel
theorem d_M_settle_15 : decode b_M_settle 15 = .ok (.iload_n 2, 1) := by decide +kernel
theorem d_M_settle_16 : decode b_M_settle 16 = .ok (.iaload, 1) := by decide +kernel
theorem d_M_settle_17 : decode b_M_settle 17 = .ok (.aload_n 0, 1) := by decide +kernel
theorem d_M_settle_18 : decode b_M_settle 18 = .ok (.getfield 34, 3) := by decide +kernel
theorem d_M_settle_21 : decode b_M_settle 21 = .ok (.iload_n 3, 1) := by decide +kernel
theorem d_M_settle_22 : decode b_M_settle 22 = .ok (.iaload, 1) := by decide +kernel
theorem d_M_settle_23 : decode b_M_settle 23 = .ok (.iload_n 2, 1) := by decide +kernel
theorem d_M_settle_24 : decode b_M_settle 24 = .ok (.aload_n 0, 1) := by decide +kernel
theorem d_M_settle_25 : decode b_M_settle 25 = .ok (.getfield 186, 3) := by decide +kernel
theorem d_M_settle_28 : decode b_M_settle 28 = .ok (.iconst 1, 1) := by decide +kernel
theorem d_M_settle_29 : decode b_M_settle 29 = .ok (.iadd, 1) := by decide +kernel
theorem d_M_settle_30 : decode b_M_settle 30 = .ok (.invokevirtual 142, 3) := by decide +kernel
theorem d_M_settle_33 : decode b_M_settle 33 = .ok (.istore 4, 2) := by decide +kernel
theorem d_M_settle_35 : decode b_M_settle 35 = .ok (.aload_n 0, 1) := by decide +kernel
theorem d_M_settle_36 : decode b_M_settle 36 = .ok (.aload_n 0, 1) := by decide +kernel
theorem d_M_settle_37 : decode b_M_settle 37 = .ok (.getfield 22, 3) := by decide +kernel
theorem d_M_settle_40 : decode b_M_settle 40 = .ok (.iload_n 2, 1) := by decide +kernel
theorem d_M_settle_41 : decode b_M_settle 41 = .ok (.iaload, 1) := by decide +kernel
theorem d_M_settle_42 : decode b_M_settle 42 = .ok (.aload_n 0, 1) := by decide +kernel
theorem d_M_settle_43 : decode b_M_settle 43 = .ok (.getfield 34, 3) := by decide +kernel
theorem d_M_settle_46 : decode b_M_settle 46 = .ok (.iload_n 3, 1) := by decide +kernel
theorem d_M_settle_47 : decode b_M_settle 47 = .ok (.iaload, 1) := by decide +kernel
theorem d_M_settle_48 : decode b_M_settle 48 = .ok (.iload_n 1, 1) := by decide +kernel
theorem d_M_settle_49 : decode b_M_settle 49 = .ok (.aload_n 0, 1) := by decide +kernel
theorem d_M_settle_50 : decode b_M_settle 50 = .ok (.getfield 186, 3) := by decide +kernel
theorem d_M_settle_53 : decode b_M_settle 53 = .ok (.invokevirtual 142, 3) := by decide +kernel
theorem d_M_settle_56 : decode b_M_settle 56 = .ok (.istore 5, 2) := by decide +kernel
theorem d_M_settle_58 : decode b_M_settle 58 = .ok (.aload_n 0, 1) := by decide +kernel
theorem d_M_settle_59 : decode b_M_settle 59 = .ok (.getfield 68, 3) := by decide +kernel
theorem d_M_settle_62 : decode b_M_settle 62 = .ok (.bipush 16, 2) := by decide +kernel
theorem d_M_settle_64 : decode b_M_settle 64 = .ok (.iload_n 1, 1) := by decide +kernel
theorem d_M_settle_65 : decode b_M_settle 65 = .ok (.imul, 1) := by decide +kernel
theorem d_M_settle_66 : decode b_M_settle 66 = .ok (.iload_n 3, 1) := by decide +kernel
theorem d_M_settle_67 : decode b_M_settle 67 = .ok (.iadd, 1) := by decide +kernel
theorem d_M_settle_68 : decode b_M_settle 68 = .ok (.iaload, 1) := by decide +kernel
theorem d_M_settle_69 : decode b_M_settle 69 = .ok (.ifCond .ne 27, 3) := by decide +kernel
theorem d_M_settle_72 : decode b_M_settle 72 = .ok (.aload_n 0, 1) := by decide +kernel
theorem d_M_settle_73 : decode b_M_settle 73 = .ok (.getfield 34, 3) := by decide +kernel
theorem d_M_settle_76 : decode b_M_settle 76 = .ok (.iload_n 3, 1) := by decide +kernel
theorem d_M_settle_77 : decode b_M_settle 77 = .ok (.iaload, 1) := by decide +kernel
theorem d_M_settle_78 : decode b_M_settle 78 = .ok (.iload_n 2, 1) := by decide +kernel
theorem d_M_settle_79 : decode b_M_settle 79 = .ok (.if_icmp .eq 13, 3) := by decide +kernel
theorem d_M_settle_82 : decode b_M_settle 82 = .ok (.iload 4, 2) := by decide +kernel
theorem d_M_settle_84 : decode b_M_settle 84 = .ok (.iload 5, 2) := by decide +kernel
theorem d_M_settle_86 : decode b_M_settle 86 = .ok (.invokestatic 195, 3) := by decide +kernel
theorem d_M_settle_89 : decode b_M_settle 89 = .ok (.ifCond .eq 7, 3) := by decide +kernel
theorem d_M_settle_92 : decode b_M_settle 92 = .ok (.iconst 1, 1) := by decide +kernel
theorem d_M_settle_93 : decode b_M_settle 93 = .ok (.goto 4, 3) := by decide +kernel
theorem d_M_settle_96 : decode b_M_settle 96 = .ok (.iconst 0, 1) := by decide +kernel
theorem d_M_settle_97 : decode b_M_settle 97 = .ok (.istore 6, 2) := by decide +kernel
theorem d_M_settle_99 : decode b_M_settle 99 = .ok (.aload_n 0, 1) := by decide +kernel
theorem d_M_settle_100 : decode b_M_settle 100 = .ok (.getfield 34, 3) := by decide +kernel
theorem d_M_settle_103 : decode b_M_settle 103 = .ok (.iload_n 3, 1) := by decide +kernel
theorem d_M_settle_104 : decode b_M_settle 104 = .ok (.iaload, 1) := by decide +kernel
theorem d_M_settle_105 : decode b_M_settle 105 = .ok (.iload_n 2, 1) := by decide +kernel
theorem d_M_settle_106 : decode b_M_settle 106 = .ok (.if_icmp .eq 23, 3) := by decide +kernel
theorem d_M_settle_109 : decode b_M_settle 109 = .ok (.iload 5, 2) := by decide +kernel
theorem d_M_settle_111 : decode b_M_settle 111 = .ok (.iconst (-1), 1) := by decide +kernel
theorem d_M_settle_112 : decode b_M_settle 112 = .ok (.if_icmp .eq 17, 3) := by decide +kernel
theorem d_M_settle_115 : decode b_M_settle 115 = .ok (.iload 4, 2) := by decide +kernel
theorem d_M_settle_117 : decode b_M_settle 117 = .ok (.iload 5, 2) := by decide +kernel
theorem d_M_settle_119 : decode b_M_settle 119 = .ok (.invokestatic 195, 3) := by decide +kernel
theorem d_M_settle_122 : decode b_M_settle 122 = .ok (.ifCond .ne 7, 3) := by decide +kernel
theorem d_M_settle_125 : decode b_M_settle 125 = .ok (.iconst 1, 1) := by decide +kernel
theorem d_M_settle_126 : decode b_M_settle 126 = .ok (.goto 4, 3) := by decide +kernel
theorem d_M_settle_129 : decode b_M_settle 129 = .ok (.iconst 0, 1) := by decide +kernel
theorem d_M_settle_130 : decode b_M_settle 130 = .ok (.istore 7, 2) := by decide +kernel
theorem d_M_settle_132 : decode b_M_settle 132 = .ok (.iconst 0, 1) := by decide +kernel
theorem d_M_settle_133 : decode b_M_settle 133 = .ok (.istore 8, 2) := by decide +kernel
theorem d_M_settle_135 : decode b_M_settle 135 = .ok (.iload 8, 2) := by decide +kernel
theorem d_M_settle_137 : decode b_M_settle 137 = .ok (.iconst 4, 1) := by decide +kernel
theorem d_M_settle_138 : decode b_M_settle 138 = .ok (.if_icmp .ge 84, 3) := by decide +kernel
theorem d_M_settle_141 : decode b_M_settle 141 = .ok (.aload_n 0, 1) := by decide +kernel
theorem d_M_settle_142 : decode b_M_settle 142 = .ok (.getfield 98, 3) := by decide +kernel
theorem d_M_settle_145 : decode b_M_settle 145 = .ok (.iconst 4, 1) := by decide +kernel
theorem d_M_settle_146 : decode b_M_settle 146 = .ok (.iload_n 3, 1) := by decide +kernel
theorem d_M_settle_147 : decode b_M_settle 147 = .ok (.imul, 1) := by decide +kernel
theorem d_M_settle_148 : decode b_M_settle 148 = .ok (.iload 8, 2) := by decide +kernel
theorem d_M_settle_150 : decode b_M_settle 150 = .ok (.iadd, 1) := by decide +kernel
theorem d_M_settle_151 : decode b_M_settle 151 = .ok (.iload 6, 2) := by decide +kernel
theorem d_M_settle_153 : decode b_M_settle 153 = .ok (.ifCond .eq 22, 3) := by decide +kernel
theorem d_M_settle_156 : decode b_M_settle 156 = .ok (.aload_n 0, 1) := by decide +kernel
theorem d_M_settle_157 : decode b_M_settle 157 = .ok (.getfield 56, 3) := by decide +kernel
theorem d_M_settle_160 : decode b_M_settle 160 = .ok (.iload_n 1, 1) := by decide +kernel
theorem d_M_settle_161 : decode b_M_settle 161 = .ok (.iload_n 3, 1) := by decide +kernel
theorem d_M_settle_162 : decode b_M_settle 162 = .ok (.iload 8, 2) := by decide +kernel
theorem d_M_settle_164 : decode b_M_settle 164 = .ok (.invokestatic 146, 3) := by decide +kernel
theorem d_M_settle_167 : decode b_M_settle 167 = .ok (.baload, 1) := by decide +kernel
theorem d_M_settle_168 : decode b_M_settle 168 = .ok (.ifCond .eq 7, 3) := by decide +kernel
theorem d_M_settle_171 : decode b_M_settle 171 = .ok (.iconst 1, 1) := by decide +kernel
theorem d_M_settle_172 : decode b_M_settle 172 = .ok (.goto 4, 3) := by decide +kernel
theorem d_M_settle_175 : decode b_M_settle 175 = .ok (.iconst 0, 1) := by decide +kernel
theorem d_M_settle_176 : decode b_M_settle 176 = .ok (.bastore, 1) := by decide +kernel
theorem d_M_settle_177 : decode b_M_settle 177 = .ok (.aload_n 0, 1) := by decide +kernel
theorem d_M_settle_178 : decode b_M_settle 178 = .ok (.getfield 98, 3) := by decide +kernel
theorem d_M_settle_181 : decode b_M_settle 181 = .ok (.bipush 64, 2) := by decide +kernel
theorem d_M_settle_183 : decode b_M_settle 183 = .ok (.iconst 4, 1) := by decide +kernel
theorem d_M_settle_184 : decode b_M_settle 184 = .ok (.iload_n 3, 1) := by decide +kernel
theorem d_M_settle_185 : decode b_M_settle 185 = .ok (.imul, 1) := by decide +kernel
theorem d_M_settle_186 : decode b_M_settle 186 = .ok (.iadd, 1) := by decide +kernel
theorem d_M_settle_187 : decode b_M_settle 187 = .ok (.iload 8, 2) := by decide +kernel
theorem d_M_settle_189 : decode b_M_settle 189 = .ok (.iadd, 1) := by decide +kernel
theorem d_M_settle_190 : decode b_M_settle 190 = .ok (.iload 7, 2) := by decide +kernel
theorem d_M_settle_192 : decode b_M_settle 192 = .ok (.ifCond .eq 22, 3) := by decide +kernel
theorem d_M_settle_195 : decode b_M_settle 195 = .ok (.aload_n 0, 1) := by decide +kernel
theorem d_M_settle_196 : decode b_M_settle 196 = .ok (.getfield 56, 3) := by decide +kernel
theorem d_M_settle_199 : decode b_M_settle 199 = .ok (.iload_n 2, 1) := by decide +kernel
theorem d_M_settle_200 : decode b_M_settle 200 = .ok (.iload_n 3, 1) := by decide +kernel
theorem d_M_settle_201 : decode b_M_settle 201 = .ok (.iload 8, 2) := by decide +kernel
theorem d_M_settle_203 : decode b_M_settle 203 = .ok (.invokestatic 146, 3) := by decide +kernel
theorem d_M_settle_206 : decode b_M_settle 206 = .ok (.baload, 1) := by decide +kernel
theorem d_M_settle_207 : decode b_M_settle 207 = .ok (.ifCond .eq 7, 3) := by decide +kernel
theorem d_M_settle_210 : decode b_M_settle 210 = .ok (.iconst 1, 1) := by decide +kernel
theorem d_M_settle_211 : decode b_M_settle 211 = .ok (.goto 4, 3) := by decide +kernel
theorem d_M_settle_214 : decode b_M_settle 214 = .ok (.iconst 0, 1) := by decide +kernel
theorem d_M_settle_215 : decode b_M_settle 215 = .ok (.bastore, 1) := by decide +kernel
theorem d_M_settle_216 : decode b_M_settle 216 = .ok (.iinc 8 1, 3) := by decide +kernel
theorem d_M_settle_219 : decode b_M_settle 219 = .ok (.goto (-84), 3) := by decide +kernel
theorem d_M_settle_222 : decode b_M_settle 222 = .ok (.iinc 3 1, 3) := by decide +kernel
theorem d_M_settle_225 : decode b_M_settle 225 = .ok (.goto (-223), 3) := by decide +kernel
theorem d_M_settle_228 : decode b_M_settle 228 = .ok (.return_, 1) := by decide +kernel
theorem d_M_move_0 : decode b_M_move 0 = .ok (.iload_n 1, 1) := by decide +kernel
theorem d_M_move_1 : decode b_M_move 1 = .ok (.iload_n 3, 1) := by decide +kernel
theorem d_M_move_2 : decode b_M_move 2 = .ok (.iload 4, 2) := by decide +kernel
theorem d_M_move_4 : decode b_M_move 4 = .ok (.invokestatic 146, 3) := by decide +kernel
theorem d_M_move_7 : decode b_M_move 7 = .ok (.istore 5, 2) := by decide +kernel
theorem d_M_move_9 : decode b_M_move 9 = .ok (.iload_n 2, 1) := by decide +kernel
theorem d_M_move_10 : decode b_M_move 10 = .ok (.iload_n 3, 1) := by decide +kernel
theorem d_M_move_11 : decode b_M_move 11 = .ok (.iload 4, 2) := by decide +kernel
theorem d_M_move_13 : decode b_M_move 13 = .ok (.invokestatic 146, 3) := by decide +kernel
theorem d_M_move_16 : decode b_M_move 16 = .ok (.istore 6, 2) := by decide +kernel
theorem d_M_move_18 : decode b_M_move 18 = .ok (.aload_n 0, 1) := by decide +kernel
theorem d_M_move_19 : decode b_M_move 19 = .ok (.getfield 56, 3) := by decide +kernel
theorem d_M_move_22 : decode b_M_move 22 = .ok (.iload 5, 2) := by decide +kernel
theorem d_M_move_24 : decode b_M_move 24 = .ok (.baload, 1) := by decide +kernel
theorem d_M_move_25 : decode b_M_move 25 = .ok (.ifCond .eq 13, 3) := by decide +kernel
theorem d_M_move_28 : decode b_M_move 28 = .ok (.aload_n 0, 1) := by decide +kernel
theorem d_M_move_29 : decode b_M_move 29 = .ok (.getfield 56, 3) := by decide +kernel
theorem d_M_move_32 : decode b_M_move 32 = .ok (.iload 6, 2) := by decide +kernel
theorem d_M_move_34 : decode b_M_move 34 = .ok (.baload, 1) := by decide +kernel
theorem d_M_move_35 : decode b_M_move 35 = .ok (.ifCond .eq 5, 3) := by decide +kernel
theorem d_M_move_38 : decode b_M_move 38 = .ok (.iconst 0, 1) := by decide +kernel
theorem d_M_move_39 : decode b_M_move 39 = .ok (.ireturn, 1) := by decide +kernel
theorem d_M_move_40 : decode b_M_move 40 = .ok (.aload_n 0, 1) := by decide +kernel
theorem d_M_move_41 : decode b_M_move 41 = .ok (.iload_n 2, 1) := by decide +kernel
theorem d_M_move_42 : decode b_M_move 42 = .ok (.invokevirtual 183, 3) := by decide +kernel
theorem d_M_move_45 : decode b_M_move 45 = .ok (.ifCond .ne 15, 3) := by decide +kernel
theorem d_M_move_48 : decode b_M_move 48 = .ok (.aload_n 0, 1) := by decide +kernel
theorem d_M_move_49 : decode b_M_move 49 = .ok (.getfield 74, 3) := by decide +kernel
theorem d_M_move_52 : decode b_M_move 52 = .ok (.iload_n 2, 1) := by decide +kernel
theorem d_M_move_53 : decode b_M_move 53 = .ok (.dup2, 1) := by decide +kernel
theorem d_M_move_54 : decode b_M_move 54 = .ok (.iaload, 1) := by decide +kernel
theorem d_M_move_55 : decode b_M_move 55 = .ok (.iconst 1, 1) := by decide +kernel
theorem d_M_move_56 : decode b_M_move 56 = .ok (.iadd, 1) := by decide +kernel
theorem d_M_move_57 : decode b_M_move 57 = .ok (.iastore, 1) := by decide +kernel
theorem d_M_move_58 : decode b_M_move 58 = .ok (.iconst 0, 1) := by decide +kernel
theorem d_M_move_59 : decode b_M_move 59 = .ok (.ireturn, 1) := by decide +kernel
theorem d_M_move_60 : decode b_M_move 60 = .ok (.aload_n 0, 1) := by decide +kernel
theorem d_M_move_61 : decode b_M_move 61 = .ok (.iload 5, 2) := by decide +kernel
theorem d_M_move_63 : decode b_M_move 63 = .ok (.putfield 198, 3) := by decide +kernel
theorem d_M_move_66 : decode b_M_move 66 = .ok (.aload_n 0, 1) := by decide +kernel
theorem d_M_move_67 : decode b_M_move 67 = .ok (.aload_n 0, 1) := by decide +kernel
theorem d_M_move_68 : decode b_M_move 68 = .ok (.getfield 59, 3) := by decide +kernel
theorem d_M_move_71 : decode b_M_move 71 = .ok (.iload 5, 2) := by decide +kernel
theorem d_M_move_73 : decode b_M_move 73 = .ok (.iaload, 1) := by decide +kernel
theorem d_M_move_74 : decode b_M_move 74 = .ok (.putfield 201, 3) := by decide +kernel
theorem d_M_move_77 : decode b_M_move 77 = .ok (.iconst 0, 1) := by decide +kernel
theorem d_M_move_78 : decode b_M_move 78 = .ok (.istore 7, 2) := by decide +kernel
theorem d_M_move_80 : decode b_M_move 80 = .ok (.iload 7, 2) := by decide +kernel
theorem d_M_move_82 : decode b_M_move 82 = .ok (.bipush 8, 2) := by decide +kernel
theorem d_M_move_84 : decode b_M_move 84 = .ok (.if_icmp .ge 55, 3) := by decide +kernel
theorem d_M_move_87 : decode b_M_move 87 = .ok (.aload_n 0, 1) := by decide +kernel
theorem d_M_move_88 : decode b_M_move 88 = .ok (.getfield 101, 3) := by decide +kernel
theorem d_M_move_91 : decode b_M_move 91 = .ok (.iload 7, 2) := by decide +kernel
theorem d_M_move_93 : decode b_M_move 93 = .ok (.aload_n 0, 1) := by decide +kernel
theorem d_M_move_94 : decode b_M_move 94 = .ok (.getfield 65, 3) := by decide +kernel
theorem d_M_move_97 : decode b_M_move 97 = .ok (.bipush 8, 2) := by decide +kernel
theorem d_M_move_99 : decode b_M_move 99 = .ok (.iload 5, 2) := by decide +kernel
theorem d_M_move_101 : decode b_M_move 101 = .ok (.imul, 1) := by decide +kernel
theorem d_M_move_102 : decode b_M_move 102 = .ok (.iload 7, 2) := by decide +kernel
theorem d_M_move_104 : decode b_M_move 104 = .ok (.iadd, 1) := by decide +kernel
theorem d_M_move_105 : decode b_M_move 105 = .ok (.iaload, 1) := by decide +kernel
theorem d_M_move_106 : decode b_M_move 106 = .ok (.iastore, 1) := by decide +kernel
theorem d_M_move_107 : decode b_M_move 107 = .ok (.aload_n 0, 1) := by decide +kernel
theorem d_M_move_108 : decode b_M_move 108 = .ok (.getfield 65, 3) := by decide +kernel
theorem d_M_move_111 : decode b_M_move 111 = .ok (.bipush 8, 2) := by decide +kernel
theorem d_M_move_113 : decode b_M_move 113 = .ok (.iload 6, 2) := by decide +kernel
theorem d_M_move_115 : decode b_M_move 115 = .ok (.imul, 1) := by decide +kernel
theorem d_M_move_116 : decode b_M_move 116 = .ok (.iload 7, 2) := by decide +kernel
theorem d_M_move_118 : decode b_M_move 118 = .ok (.iadd, 1) := by decide +kernel
theorem d_M_move_119 : decode b_M_move 119 = .ok (.aload_n 0, 1) := by decide +kernel
theorem d_M_move_120 : decode b_M_move 120 = .ok (.getfield 65, 3) := by decide +kernel
theorem d_M_move_123 : decode b_M_move 123 = .ok (.bipush 8, 2) := by decide +kernel
theorem d_M_move_125 : decode b_M_move 125 = .ok (.iload 5, 2) := by decide +kernel
theorem d_M_move_127 : decode b_M_move 127 = .ok (.imul, 1) := by decide +kernel
theorem d_M_move_128 : decode b_M_move 128 = .ok (.iload 7, 2) := by decide +kernel
theorem d_M_move_130 : decode b_M_move 130 = .ok (.iadd, 1) := by decide +kernel
theorem d_M_move_131 : decode b_M_move 131 = .ok (.iaload, 1) := by decide +kernel
theorem d_M_move_132 : decode b_M_move 132 = .ok (.iastore, 1) := by decide +kernel
theorem d_M_move_133 : decode b_M_move 133 = .ok (.iinc 7 1, 3) := by decide +kernel
theorem d_M_move_136 : decode b_M_move 136 = .ok (.goto (-56), 3) := by decide +kernel
theorem d_M_move_139 : decode b_M_move 139 = .ok (.aload_n 0, 1) := by decide +kernel
theorem d_M_move_140 : decode b_M_move 140 = .ok (.getfield 56, 3) := by decide +kernel
theorem d_M_move_143 : decode b_M_move 143 = .ok (.iload 6, 2) := by decide +kernel
theorem d_M_move_145 : decode b_M_move 145 = .ok (.iconst 1, 1) := by decide +kernel
theorem d_M_move_146 : decode b_M_move 146 = .ok (.bastore, 1) := by decide +kernel
theorem d_M_move_147 : decode b_M_move 147 = .ok (.aload_n 0, 1) := by decide +kernel
theorem d_M_move_148 : decode b_M_move 148 = .ok (.getfield 59, 3) := by decide +kernel
theorem d_M_move_151 : decode b_M_move 151 = .ok (.iload 6, 2) := by decide +kernel
theorem d_M_move_153 : decode b_M_move 153 = .ok (.aload_n 0, 1) := by decide +kernel
theorem d_M_move_154 : decode b_M_move 154 = .ok (.getfield 59, 3) := by decide +kernel
theorem d_M_move_157 : decode b_M_move 157 = .ok (.iload 5, 2) := by decide +kernel
theorem d_M_move_159 : decode b_M_move 159 = .ok (.iaload, 1) := by decide +kernel
theorem d_M_move_160 : decode b_M_move 160 = .ok (.iconst 1, 1) := by decide +kernel
theorem d_M_move_161 : decode b_M_move 161 = .ok (.iadd, 1) := by decide +kernel
theorem d_M_move_162 : decode b_M_move 162 = .ok (.iastore, 1) := by decide +kernel
theorem d_M_move_163 : decode b_M_move 163 = .ok (.aload_n 0, 1) := by decide +kernel
theorem d_M_move_164 : decode b_M_move 164 = .ok (.getfield 62, 3) := by decide +kernel
theorem d_M_move_167 : decode b_M_move 167 = .ok (.iload 6, 2) := by decide +kernel
theorem d_M_move_169 : decode b_M_move 169 = .ok (.aload_n 0, 1) := by decide +kernel
theorem d_M_move_170 : decode b_M_move 170 = .ok (.getfield 59, 3) := by decide +kernel
theorem d_M_move_173 : decode b_M_move 173 = .ok (.iload 6, 2) := by decide +kernel
theorem d_M_move_175 : decode b_M_move 175 = .ok (.iaload, 1) := by decide +kernel
theorem d_M_move_176 : decode b_M_move 176 = .ok (.iastore, 1) := by decide +kernel
theorem d_M_move_177 : decode b_M_move 177 = .ok (.aload_n 0, 1) := by decide +kernel
theorem d_M_move_178 : decode b_M_move 178 = .ok (.iload 5, 2) := by decide +kernel
theorem d_M_move_180 : decode b_M_move 180 = .ok (.aload_n 0, 1) := by decide +kernel
theorem d_M_move_181 : decode b_M_move 181 = .ok (.getfield 59, 3) := by decide +kernel
theorem d_M_move_184 : decode b_M_move 184 = .ok (.iload 6, 2) := by decide +kernel
theorem d_M_move_186 : decode b_M_move 186 = .ok (.iaload, 1) := by decide +kernel
theorem d_M_move_187 : decode b_M_move 187 = .ok (.invokevirtual 192, 3) := by decide +kernel
theorem d_M_move_190 : decode b_M_move 190 = .ok (.aload_n 0, 1) := by decide +kernel
theorem d_M_move_191 : decode b_M_move 191 = .ok (.getfield 34, 3) := by decide +kernel
theorem d_M_move_194 : decode b_M_move 194 = .ok (.iload_n 3, 1) := by decide +kernel
theorem d_M_move_195 : decode b_M_move 195 = .ok (.iaload, 1) := by decide +kernel
theorem d_M_move_196 : decode b_M_move 196 = .ok (.iload_n 2, 1) := by decide +kernel
theorem d_M_move_197 : decode b_M_move 197 = .ok (.if_icmp .ne 8, 3) := by decide +kernel
theorem d_M_move_200 : decode b_M_move 200 = .ok (.aload_n 0, 1) := by decide +kernel
theorem d_M_move_201 : decode b_M_move 201 = .ok (.iload_n 3, 1) := by decide +kernel
theorem d_M_move_202 : decode b_M_move 202 = .ok (.invokevirtual 173, 3) := by decide +kernel
theorem d_M_move_205 : decode b_M_move 205 = .ok (.iconst 1, 1) := by decide +kernel
theorem d_M_move_206 : decode b_M_move 206 = .ok (.ireturn, 1) := by decide +kernel
theorem d_M_give_0 : decode b_M_give 0 = .ok (.iconst 0, 1) := by decide +kernel
theorem d_M_give_1 : decode b_M_give 1 = .ok (.istore 5, 2) := by decide +kernel
theorem d_M_give_3 : decode b_M_give 3 = .ok (.iconst 0, 1) := by decide +kernel
theorem d_M_give_4 : decode b_M_give 4 = .ok (.istore 6, 2) := by decide +kernel
theorem d_M_give_6 : decode b_M_give 6 = .ok (.iload 6, 2) := by decide +kernel
theorem d_M_give_8 : decode b_M_give 8 = .ok (.iconst 3, 1) := by decide +kernel
theorem d_M_give_9 : decode b_M_give 9 = .ok (.if_icmp .ge 94, 3) := by decide +kernel
theorem d_M_give_12 : decode b_M_give 12 = .ok (.iconst 0, 1) := by decide +kernel
theorem d_M_give_13 : decode b_M_give 13 = .ok (.istore 7, 2) := by decide +kernel
theorem d_M_give_15 : decode b_M_give 15 = .ok (.iload 7, 2) := by decide +kernel
theorem d_M_give_17 : decode b_M_give 17 = .ok (.aload_n 0, 1) := by decide +kernel
theorem d_M_give_18 : decode b_M_give 18 = .ok (.getfield 112, 3) := by decide +kernel
theorem d_M_give_21 : decode b_M_give 21 = .ok (.if_icmp .ge 76, 3) := by decide +kernel
theorem d_M_give_24 : decode b_M_give 24 = .ok (.iconst 0, 1) := by decide +kernel
theorem d_M_give_25 : decode b_M_give 25 = .ok (.istore 8, 2) := by decide +kernel
theorem d_M_give_27 : decode b_M_give 27 = .ok (.iload 8, 2) := by decide +kernel
theorem d_M_give_29 : decode b_M_give 29 = .ok (.iconst 4, 1) := by decide +kernel
theorem d_M_give_30 : decode b_M_give 30 = .ok (.if_icmp .ge 61, 3) := by decide +kernel
theorem d_M_give_33 : decode b_M_give 33 = .ok (.aload_n 0, 1) := by decide +kernel
theorem d_M_give_34 : decode b_M_give 34 = .ok (.getfield 28, 3) := by decide +kernel
theorem d_M_give_37 : decode b_M_give 37 = .ok (.iload 7, 2) := by decide +kernel
theorem d_M_give_39 : decode b_M_give 39 = .ok (.iaload, 1) := by decide +kernel
theorem d_M_give_40 : decode b_M_give 40 = .ok (.iload 6, 2) := by decide +kernel
theorem d_M_give_42 : decode b_M_give 42 = .ok (.if_icmp .ne 49, 3) := by decide +kernel
theorem d_M_give_45 : decode b_M_give 45 = .ok (.iload 5, 2) := by decide +kernel
theorem d_M_give_47 : decode b_M_give 47 = .ok (.iload_n 3, 1) := by decide +kernel
theorem d_M_give_48 : decode b_M_give 48 = .ok (.if_icmp .ge 37, 3) := by decide +kernel
theorem d_M_give_51 : decode b_M_give 51 = .ok (.aload_n 0, 1) := by decide +kernel
theorem d_M_give_52 : decode b_M_give 52 = .ok (.getfield 98, 3) := by decide +kernel
theorem d_M_give_55 : decode b_M_give 55 = .ok (.iload 4, 2) := by decide +kernel
theorem d_M_give_57 : decode b_M_give 57 = .ok (.iconst 4, 1) := by decide +kernel
theorem d_M_give_58 : decode b_M_give 58 = .ok (.iload 7, 2) := by decide +kernel
theorem d_M_give_60 : decode b_M_give 60 = .ok (.imul, 1) := by decide +kernel
theorem d_M_give_61 : decode b_M_give 61 = .ok (.iadd, 1) := by decide +kernel
theorem d_M_give_62 : decode b_M_give 62 = .ok (.iload 8, 2) := by decide +kernel
theorem d_M_give_64 : decode b_M_give 64 = .ok (.iadd, 1) := by decide +kernel
theorem d_M_give_65 : decode b_M_give 65 = .ok (.baload, 1) := by decide +kernel
theorem d_M_give_66 : decode b_M_give 66 = .ok (.ifCond .eq 19, 3) := by decide +kernel
theorem d_M_give_69 : decode b_M_give 69 = .ok (.aload_n 0, 1) := by decide +kernel
theorem d_M_give_70 : decode b_M_give 70 = .ok (.iload_n 1, 1) := by decide +kernel
theorem d_M_give_71 : decode b_M_give 71 = .ok (.iload_n 2, 1) := by decide +kernel
theorem d_M_give_72 : decode b_M_give 72 = .ok (.iload 7, 2) := by decide +kernel
theorem d_M_give_74 : decode b_M_give 74 = .ok (.iload 8, 2) := by decide +kernel
theorem d_M_give_76 : decode b_M_give 76 = .ok (.invokevirtual 204, 3) := by decide +kernel
theorem d_M_give_79 : decode b_M_give 79 = .ok (.ifCond .eq 6, 3) := by decide +kernel
theorem d_M_give_82 : decode b_M_give 82 = .ok (.iinc 5 1, 3) := by decide +kernel
theorem d_M_give_85 : decode b_M_give 85 = .ok (.iinc 8 1, 3) := by decide +kernel
theorem d_M_give_88 : decode b_M_give 88 = .ok (.goto (-61), 3) := by decide +kernel
theorem d_M_give_91 : decode b_M_give 91 = .ok (.iinc 7 1, 3) := by decide +kernel
theorem d_M_give_94 : decode b_M_give 94 = .ok (.goto (-79), 3) := by decide +kernel
theorem d_M_give_97 : decode b_M_give 97 = .ok (.iinc 6 1, 3) := by decide +kernel
theorem d_M_give_100 : decode b_M_give 100 = .ok (.goto (-94), 3) := by decide +kernel
theorem d_M_give_103 : decode b_M_give 103 = .ok (.iload 5, 2) := by decide +kernel
theorem d_M_give_105 : decode b_M_give 105 = .ok (.ireturn, 1) := by decide +kernel
theorem d_M_meeting_0 : decode b_M_meeting 0 = .ok (.aload_n 0, 1) := by decide +kernel
theorem d_M_meeting_1 : decode b_M_meeting 1 = .ok (.iload_n 1, 1) := by decide +kernel
theorem d_M_meeting_2 : decode b_M_meeting 2 = .ok (.invokestatic 115, 3) := by decide +kernel
theorem d_M_meeting_5 : decode b_M_meeting 5 = .ok (.ifCond .eq 23, 3) := by decide +kernel
theorem d_M_meeting_8 : decode b_M_meeting 8 = .ok (.iload_n 2, 1) := by decide +kernel
theorem d_M_meeting_9 : decode b_M_meeting 9 = .ok (.invokestatic 119, 3) := by decide +kernel
theorem d_M_meeting_12 : decode b_M_meeting 12 = .ok (.ifCond .eq 16, 3) := by decide +kernel
theorem d_M_meeting_15 : decode b_M_meeting 15 = .ok (.iload_n 3, 1) := by decide +kernel
theorem d_M_meeting_16 : decode b_M_meeting 16 = .ok (.bipush 40, 2) := by decide +kernel
theorem d_M_meeting_18 : decode b_M_meeting 18 = .ok (.invokestatic 108, 3) := by decide +kernel
theorem d_M_meeting_21 : decode b_M_meeting 21 = .ok (.ifCond .eq 7, 3) := by decide +kernel
theorem d_M_meeting_24 : decode b_M_meeting 24 = .ok (.iconst 0, 1) := by decide +kernel
theorem d_M_meeting_25 : decode b_M_meeting 25 = .ok (.goto 4, 3) := by decide +kernel
theorem d_M_meeting_28 : decode b_M_meeting 28 = .ok (.iconst 1, 1) := by decide +kernel
theorem d_M_meeting_29 : decode b_M_meeting 29 = .ok (.putfield 104, 3) := by decide +kernel
theorem d_M_meeting_32 : decode b_M_meeting 32 = .ok (.aload_n 0, 1) := by decide +kernel
theorem d_M_meeting_33 : decode b_M_meeting 33 = .ok (.iconst (-1), 1) := by decide +kernel
theorem d_M_meeting_34 : decode b_M_meeting 34 = .ok (.putfield 198, 3) := by decide +kernel
theorem d_M_meeting_37 : decode b_M_meeting 37 = .ok (.aload_n 0, 1) := by decide +kernel
theorem d_M_meeting_38 : decode b_M_meeting 38 = .ok (.getfield 104, 3) := by decide +kernel
theorem d_M_meeting_41 : decode b_M_meeting 41 = .ok (.ifCond .eq 5, 3) := by decide +kernel
theorem d_M_meeting_44 : decode b_M_meeting 44 = .ok (.iconst 0, 1) := by decide +kernel
theorem d_M_meeting_45 : decode b_M_meeting 45 = .ok (.ireturn, 1) := by decide +kernel
theorem d_M_meeting_46 : decode b_M_meeting 46 = .ok (.aload_n 0, 1) := by decide +kernel
theorem d_M_meeting_47 : decode b_M_meeting 47 = .ok (.iload_n 1, 1) := by decide +kernel
theorem d_M_meeting_48 : decode b_M_meeting 48 = .ok (.iload_n 2, 1) := by decide +kernel
theorem d_M_meeting_49 : decode b_M_meeting 49 = .ok (.invokevirtual 208, 3) := by decide +kernel
theorem d_M_meeting_52 : decode b_M_meeting 52 = .ok (.aload_n 0, 1) := by decide +kernel
theorem d_M_meeting_53 : decode b_M_meeting 53 = .ok (.iload_n 1, 1) := by decide +kernel
theorem d_M_meeting_54 : decode b_M_meeting 54 = .ok (.iload_n 2, 1) := by decide +kernel
theorem d_M_meeting_55 : decode b_M_meeting 55 = .ok (.invokevirtual 211, 3) := by decide +kernel
theorem d_M_meeting_58 : decode b_M_meeting 58 = .ok (.aload_n 0, 1) := by decide +kernel
theorem d_M_meeting_59 : decode b_M_meeting 59 = .ok (.iload_n 1, 1) := by decide +kernel
theorem d_M_meeting_60 : decode b_M_meeting 60 = .ok (.iload_n 2, 1) := by decide +kernel
theorem d_M_meeting_61 : decode b_M_meeting 61 = .ok (.iload_n 3, 1) := by decide +kernel
theorem d_M_meeting_62 : decode b_M_meeting 62 = .ok (.iconst 0, 1) := by decide +kernel
theorem d_M_meeting_63 : decode b_M_meeting 63 = .ok (.invokevirtual 214, 3) := by decide +kernel
theorem d_M_meeting_66 : decode b_M_meeting 66 = .ok (.istore 4, 2) := by decide +kernel
theorem d_M_meeting_68 : decode b_M_meeting 68 = .ok (.iload 4, 2) := by decide +kernel
theorem d_M_meeting_70 : decode b_M_meeting 70 = .ok (.aload_n 0, 1) := by decide +kernel
theorem d_M_meeting_71 : decode b_M_meeting 71 = .ok (.iload_n 2, 1) := by decide +kernel
theorem d_M_meeting_72 : decode b_M_meeting 72 = .ok (.iload_n 1, 1) := by decide +kernel
theorem d_M_meeting_73 : decode b_M_meeting 73 = .ok (.iload_n 3, 1) := by decide +kernel
theorem d_M_meeting_74 : decode b_M_meeting 74 = .ok (.bipush 64, 2) := by decide +kernel
theorem d_M_meeting_76 : decode b_M_meeting 76 = .ok (.invokevirtual 214, 3) := by decide +kernel
theorem d_M_meeting_79 : decode b_M_meeting 79 = .ok (.iadd, 1) := by decide +kernel
theorem d_M_meeting_80 : decode b_M_meeting 80 = .ok (.ireturn, 1) := by decide +kernel
theorem d_M_meet_0 : decode b_M_meet 0 = .ok (.aload_n 0, 1) := by decide +kernel
theorem d_M_meet_1 : decode b_M_meet 1 = .ok (.iload_n 1, 1) := by decide +kernel
theorem d_M_meet_2 : decode b_M_meet 2 = .ok (.iload_n 2, 1) := by decide +kernel
theorem d_M_meet_3 : decode b_M_meet 3 = .ok (.iload_n 3, 1) := by decide +kernel
theorem d_M_meet_4 : decode b_M_meet 4 = .ok (.invokevirtual 217, 3) := by decide +kernel
theorem d_M_meet_7 : decode b_M_meet 7 = .ok (.ireturn, 1) := by decide +kernel
theorem d_M_breakOff_0 : decode b_M_breakOff 0 = .ok (.aload_n 0, 1) := by decide +kernel
theorem d_M_breakOff_1 : decode b_M_breakOff 1 = .ok (.iload_n 1, 1) := by decide +kernel
theorem d_M_breakOff_2 : decode b_M_breakOff 2 = .ok (.iload_n 2, 1) := by decide +kernel
theorem d_M_breakOff_3 : decode b_M_breakOff 3 = .ok (.iload_n 3, 1) := by decide +kernel
theorem d_M_breakOff_4 : decode b_M_breakOff 4 = .ok (.invokevirtual 217, 3) := by decide +kernel
theorem d_M_breakOff_7 : decode b_M_breakOff 7 = .ok (.istore 4, 2) := by decide +kernel
theorem d_M_breakOff_9 : decode b_M_breakOff 9 = .ok (.aload_n 0, 1) := by decide +kernel
theorem d_M_breakOff_10 : decode b_M_breakOff 10 = .ok (.getfield 198, 3) := by decide +kernel
theorem d_M_breakOff_13 : decode b_M_breakOff 13 = .ok (.ifCond .ge 6, 3) := by decide +kernel
theorem d_M_breakOff_16 : decode b_M_breakOff 16 = .ok (.iload 4, 2) := by decide +kernel
theorem d_M_breakOff_18 : decode b_M_breakOff 18 = .ok (.ireturn, 1) := by decide +kernel
theorem d_M_breakOff_19 : decode b_M_breakOff 19 = .ok (.aload_n 0, 1) := by decide +kernel
theorem d_M_breakOff_20 : decode b_M_breakOff 20 = .ok (.getfield 56, 3) := by decide +kernel
theorem d_M_breakOff_23 : decode b_M_breakOff 23 = .ok (.aload_n 0, 1) := by decide +kernel
theorem d_M_breakOff_24 : decode b_M_breakOff 24 = .ok (.getfield 198, 3) := by decide +kernel
theorem d_M_breakOff_27 : decode b_M_breakOff 27 = .ok (.iconst 1, 1) := by decide +kernel
theorem d_M_breakOff_28 : decode b_M_breakOff 28 = .ok (.bastore, 1) := by decide +kernel
theorem d_M_breakOff_29 : decode b_M_breakOff 29 = .ok (.aload_n 0, 1) := by decide +kernel
theorem d_M_breakOff_30 : decode b_M_breakOff 30 = .ok (.getfield 59, 3) := by decide +kernel
theorem d_M_breakOff_33 : decode b_M_breakOff 33 = .ok (.aload_n 0, 1) := by decide +kernel
theorem d_M_breakOff_34 : decode b_M_breakOff 34 = .ok (.getfield 198, 3) := by decide +kernel
theorem d_M_breakOff_37 : decode b_M_breakOff 37 = .ok (.aload_n 0, 1) := by decide +kernel
theorem d_M_breakOff_38 : decode b_M_breakOff 38 = .ok (.getfield 201, 3) := by decide +kernel
theorem d_M_breakOff_41 : decode b_M_breakOff 41 = .ok (.iastore, 1) := by decide +kernel
theorem d_M_breakOff_42 : decode b_M_breakOff 42 = .ok (.aload_n 0, 1) := by decide +kernel
theorem d_M_breakOff_43 : decode b_M_breakOff 43 = .ok (.getfield 62, 3) := by decide +kernel
theorem d_M_breakOff_46 : decode b_M_breakOff 46 = .ok (.aload_n 0, 1) := by decide +kernel
theorem d_M_breakOff_47 : decode b_M_breakOff 47 = .ok (.getfield 198, 3) := by decide +kernel
theorem d_M_breakOff_50 : decode b_M_breakOff 50 = .ok (.aload_n 0, 1) := by decide +kernel
theorem d_M_breakOff_51 : decode b_M_breakOff 51 = .ok (.getfield 201, 3) := by decide +kernel
theorem d_M_breakOff_54 : decode b_M_breakOff 54 = .ok (.iastore, 1) := by decide +kernel
theorem d_M_breakOff_55 : decode b_M_breakOff 55 = .ok (.iconst 0, 1) := by decide +kernel
theorem d_M_breakOff_56 : decode b_M_breakOff 56 = .ok (.istore 5, 2) := by decide +kernel
theorem d_M_breakOff_58 : decode b_M_breakOff 58 = .ok (.iload 5, 2) := by decide +kernel
theorem d_M_breakOff_60 : decode b_M_breakOff 60 = .ok (.bipush 8, 2) := by decide +kernel
theorem d_M_breakOff_62 : decode b_M_breakOff 62 = .ok (.if_icmp .ge 31, 3) := by decide +kernel
theorem d_M_breakOff_65 : decode b_M_breakOff 65 = .ok (.aload_n 0, 1) := by decide +kernel
theorem d_M_breakOff_66 : decode b_M_breakOff 66 = .ok (.getfield 65, 3) := by decide +kernel
theorem d_M_breakOff_69 : decode b_M_breakOff 69 = .ok (.bipush 8, 2) := by decide +kernel
theorem d_M_breakOff_71 : decode b_M_breakOff 71 = .ok (.aload_n 0, 1) := by decide +kernel
theorem d_M_breakOff_72 : decode b_M_breakOff 72 = .ok (.getfield 198, 3) := by decide +kernel
theorem d_M_breakOff_75 : decode b_M_breakOff 75 = .ok (.imul, 1) := by decide +kernel
theorem d_M_breakOff_76 : decode b_M_breakOff 76 = .ok (.iload 5, 2) := by decide +kernel
theorem d_M_breakOff_78 : decode b_M_breakOff 78 = .ok (.iadd, 1) := by decide +kernel
theorem d_M_breakOff_79 : decode b_M_breakOff 79 = .ok (.aload_n 0, 1) := by decide +kernel
theorem d_M_breakOff_80 : decode b_M_breakOff 80 = .ok (.getfield 101, 3) := by decide +kernel
theorem d_M_breakOff_83 : decode b_M_breakOff 83 = .ok (.iload 5, 2) := by decide +kernel
theorem d_M_breakOff_85 : decode b_M_breakOff 85 = .ok (.iaload, 1) := by decide +kernel
theorem d_M_breakOff_86 : decode b_M_breakOff 86 = .ok (.iastore, 1) := by decide +kernel
theorem d_M_breakOff_87 : decode b_M_breakOff 87 = .ok (.iinc 5 1, 3) := by decide +kernel
theorem d_M_breakOff_90 : decode b_M_breakOff 90 = .ok (.goto (-32), 3) := by decide +kernel
theorem d_M_breakOff_93 : decode b_M_breakOff 93 = .ok (.iload 4, 2) := by decide +kernel
theorem d_M_breakOff_95 : decode b_M_breakOff 95 = .ok (.ireturn, 1) := by decide +kernel
theorem d_M_reboot_0 : decode b_M_reboot 0 = .ok (.aload_n 0, 1) := by decide +kernel
theorem d_M_reboot_1 : decode b_M_reboot 1 = .ok (.iload_n 1, 1) := by decide +kernel
theorem d_M_reboot_2 : decode b_M_reboot 2 = .ok (.bipush 11, 2) := by decide +kernel
theorem d_M_reboot_4 : decode b_M_reboot 4 = .ok (.invokestatic 108, 3) := by decide +kernel
theorem d_M_reboot_7 : decode b_M_reboot 7 = .ok (.ifCond .eq 7, 3) := by decide +kernel
theorem d_M_reboot_10 : decode b_M_reboot 10 = .ok (.iconst 0, 1) := by decide +kernel
theorem d_M_reboot_11 : decode b_M_reboot 11 = .ok (.goto 4, 3) := by decide +kernel
theorem d_M_reboot_14 : decode b_M_reboot 14 = .ok (.iconst 1, 1) := by decide +kernel
theorem d_M_reboot_15 : decode b_M_reboot 15 = .ok (.putfield 104, 3) := by decide +kernel
theorem d_M_reboot_18 : decode b_M_reboot 18 = .ok (.aload_n 0, 1) := by decide +kernel
theorem d_M_reboot_19 : decode b_M_reboot 19 = .ok (.getfield 104, 3) := by decide +kernel
theorem d_M_reboot_22 : decode b_M_reboot 22 = .ok (.ifCond .eq 4, 3) := by decide +kernel
theorem d_M_reboot_25 : decode b_M_reboot 25 = .ok (.return_, 1) := by decide +kernel
theorem d_M_reboot_26 : decode b_M_reboot 26 = .ok (.bipush 64, 2) := by decide +kernel
theorem d_M_reboot_28 : decode b_M_reboot 28 = .ok (.iload_n 1, 1) := by decide +kernel
theorem d_M_reboot_29 : decode b_M_reboot 29 = .ok (.imul, 1) := by decide +kernel
theorem d_M_reboot_30 : decode b_M_reboot 30 = .ok (.istore_n 2, 1) := by decide +kernel
theorem d_M_reboot_31 : decode b_M_reboot 31 = .ok (.iload_n 2, 1) := by decide +kernel
theorem d_M_reboot_32 : decode b_M_reboot 32 = .ok (.bipush 64, 2) := by decide +kernel
theorem d_M_reboot_34 : decode b_M_reboot 34 = .ok (.iload_n 1, 1) := by decide +kernel
theorem d_M_reboot_35 : decode b_M_reboot 35 = .ok (.imul, 1) := by decide +kernel
theorem d_M_reboot_36 : decode b_M_reboot 36 = .ok (.bipush 64, 2) := by decide +kernel
theorem d_M_reboot_38 : decode b_M_reboot 38 = .ok (.iadd, 1) := by decide +kernel
theorem d_M_reboot_39 : decode b_M_reboot 39 = .ok (.if_icmp .ge 25, 3) := by decide +kernel
theorem d_M_reboot_42 : decode b_M_reboot 42 = .ok (.aload_n 0, 1) := by decide +kernel
theorem d_M_reboot_43 : decode b_M_reboot 43 = .ok (.getfield 56, 3) := by decide +kernel
theorem d_M_reboot_46 : decode b_M_reboot 46 = .ok (.iload_n 2, 1) := by decide +kernel
theorem d_M_reboot_47 : decode b_M_reboot 47 = .ok (.baload, 1) := by decide +kernel
theorem d_M_reboot_48 : decode b_M_reboot 48 = .ok (.ifCond .ne 10, 3) := by decide +kernel
theorem d_M_reboot_51 : decode b_M_reboot 51 = .ok (.aload_n 0, 1) := by decide +kernel
theorem d_M_reboot_52 : decode b_M_reboot 52 = .ok (.getfield 62, 3) := by decide +kernel
theorem d_M_reboot_55 : decode b_M_reboot 55 = .ok (.iload_n 2, 1) := by decide +kernel
theorem d_M_reboot_56 : decode b_M_reboot 56 = .ok (.iconst 0, 1) := by decide +kernel
theorem d_M_reboot_57 : decode b_M_reboot 57 = .ok (.iastore, 1) := by decide +kernel
theorem d_M_reboot_58 : decode b_M_reboot 58 = .ok (.iinc 2 1, 3) := by decide +kernel
theorem d_M_reboot_61 : decode b_M_reboot 61 = .ok (.goto (-30), 3) := by decide +kernel
theorem d_M_reboot_64 : decode b_M_reboot 64 = .ok (.iconst 0, 1) := by decide +kernel
theorem d_M_reboot_65 : decode b_M_reboot 65 = .ok (.istore_n 2, 1) := by decide +kernel
theorem d_M_reboot_66 : decode b_M_reboot 66 = .ok (.iload_n 2, 1) := by decide +kernel
theorem d_M_reboot_67 : decode b_M_reboot 67 = .ok (.aload_n 0, 1) := by decide +kernel
theorem d_M_reboot_68 : decode b_M_reboot 68 = .ok (.getfield 112, 3) := by decide +kernel
theorem d_M_reboot_71 : decode b_M_reboot 71 = .ok (.if_icmp .ge 41, 3) := by decide +kernel
theorem d_M_reboot_74 : decode b_M_reboot 74 = .ok (.aload_n 0, 1) := by decide +kernel
theorem d_M_reboot_75 : decode b_M_reboot 75 = .ok (.getfield 34, 3) := by decide +kernel
theorem d_M_reboot_78 : decode b_M_reboot 78 = .ok (.iload_n 2, 1) := by decide +kernel
theorem d_M_reboot_79 : decode b_M_reboot 79 = .ok (.iaload, 1) := by decide +kernel
theorem d_M_reboot_80 : decode b_M_reboot 80 = .ok (.iload_n 1, 1) := by decide +kernel
theorem d_M_reboot_81 : decode b_M_reboot 81 = .ok (.if_icmp .eq 25, 3) := by decide +kernel
theorem d_M_reboot_84 : decode b_M_reboot 84 = .ok (.aload_n 0, 1) := by decide +kernel
theorem d_M_reboot_85 : decode b_M_reboot 85 = .ok (.getfield 31, 3) := by decide +kernel
theorem d_M_reboot_88 : decode b_M_reboot 88 = .ok (.iload_n 2, 1) := by decide +kernel
theorem d_M_reboot_89 : decode b_M_reboot 89 = .ok (.iaload, 1) := by decide +kernel
theorem d_M_reboot_90 : decode b_M_reboot 90 = .ok (.iload_n 1, 1) := by decide +kernel
theorem d_M_reboot_91 : decode b_M_reboot 91 = .ok (.if_icmp .eq 15, 3) := by decide +kernel
theorem d_M_reboot_94 : decode b_M_reboot 94 = .ok (.aload_n 0, 1) := by decide +kernel
theorem d_M_reboot_95 : decode b_M_reboot 95 = .ok (.getfield 68, 3) := by decide +kernel
theorem d_M_reboot_98 : decode b_M_reboot 98 = .ok (.bipush 16, 2) := by decide +kernel
theorem d_M_reboot_100 : decode b_M_reboot 100 = .ok (.iload_n 1, 1) := by decide +kernel
theorem d_M_reboot_101 : decode b_M_reboot 101 = .ok (.imul, 1) := by decide +kernel
theorem d_M_reboot_102 : decode b_M_reboot 102 = .ok (.iload_n 2, 1) := by decide +kernel
theorem d_M_reboot_103 : decode b_M_reboot 103 = .ok (.iadd, 1) := by decide +kernel
theorem d_M_reboot_104 : decode b_M_reboot 104 = .ok (.iconst 0, 1) := by decide +kernel
theorem d_M_reboot_105 : decode b_M_reboot 105 = .ok (.iastore, 1) := by decide +kernel
theorem d_M_reboot_106 : decode b_M_reboot 106 = .ok (.iinc 2 1, 3) := by decide +kernel
theorem d_M_reboot_109 : decode b_M_reboot 109 = .ok (.goto (-43), 3) := by decide +kernel
theorem d_M_reboot_112 : decode b_M_reboot 112 = .ok (.aload_n 0, 1) := by decide +kernel
theorem d_M_reboot_113 : decode b_M_reboot 113 = .ok (.getfield 22, 3) := by decide +kernel
theorem d_M_reboot_116 : decode b_M_reboot 116 = .ok (.iload_n 1, 1) := by decide +kernel
theorem d_M_reboot_117 : decode b_M_reboot 117 = .ok (.iconst 0, 1) := by decide +kernel
theorem d_M_reboot_118 : decode b_M_reboot 118 = .ok (.iastore, 1) := by decide +kernel
theorem d_M_reboot_119 : decode b_M_reboot 119 = .ok (.return_, 1) := by decide +kernel
theorem d_M_spoil_0 : decode b_M_spoil 0 = .ok (.iload_n 1, 1) := by decide +kernel
theorem d_M_spoil_1 : decode b_M_spoil 1 = .ok (.bipush 11, 2) := by decide +kernel
theorem d_M_spoil_3 : decode b_M_spoil 3 = .ok (.invokestatic 108, 3) := by decide +kernel
theorem d_M_spoil_6 : decode b_M_spoil 6 = .ok (.ifCond .eq 36, 3) := by decide +kernel
theorem d_M_spoil_9 : decode b_M_spoil 9 = .ok (.aload_n 0, 1) := by decide +kernel
theorem d_M_spoil_10 : decode b_M_spoil 10 = .ok (.iload_n 2, 1) := by decide +kernel
theorem d_M_spoil_11 : decode b_M_spoil 11 = .ok (.invokevirtual 220, 3) := by decide +kernel
theorem d_M_spoil_14 : decode b_M_spoil 14 = .ok (.ifCond .eq 28, 3) := by decide +kernel
theorem d_M_spoil_17 : decode b_M_spoil 17 = .ok (.iload_n 3, 1) := by decide +kernel
theorem d_M_spoil_18 : decode b_M_spoil 18 = .ok (.ifCond .lt 24, 3) := by decide +kernel
theorem d_M_spoil_21 : decode b_M_spoil 21 = .ok (.iload_n 3, 1) := by decide +kernel
theorem d_M_spoil_22 : decode b_M_spoil 22 = .ok (.iconst 4, 1) := by decide +kernel
theorem d_M_spoil_23 : decode b_M_spoil 23 = .ok (.if_icmp .ge 19, 3) := by decide +kernel
theorem d_M_spoil_26 : decode b_M_spoil 26 = .ok (.iload 4, 2) := by decide +kernel
theorem d_M_spoil_28 : decode b_M_spoil 28 = .ok (.ifCond .lt 14, 3) := by decide +kernel
theorem d_M_spoil_31 : decode b_M_spoil 31 = .ok (.iload 4, 2) := by decide +kernel
theorem d_M_spoil_33 : decode b_M_spoil 33 = .ok (.bipush 8, 2) := by decide +kernel
theorem d_M_spoil_35 : decode b_M_spoil 35 = .ok (.if_icmp .ge 7, 3) := by decide +kernel
theorem d_M_spoil_38 : decode b_M_spoil 38 = .ok (.iconst 1, 1) := by decide +kernel
theorem d_M_spoil_39 : decode b_M_spoil 39 = .ok (.goto 4, 3) := by decide +kernel
theorem d_M_spoil_42 : decode b_M_spoil 42 = .ok (.iconst 0, 1) := by decide +kernel
theorem d_M_spoil_43 : decode b_M_spoil 43 = .ok (.istore 6, 2) := by decide +kernel
theorem d_M_spoil_45 : decode b_M_spoil 45 = .ok (.iload 6, 2) := by decide +kernel
theorem d_M_spoil_47 : decode b_M_spoil 47 = .ok (.ifCond .eq 22, 3) := by decide +kernel
theorem d_M_spoil_50 : decode b_M_spoil 50 = .ok (.bipush 8, 2) := by decide +kernel
theorem d_M_spoil_52 : decode b_M_spoil 52 = .ok (.iload_n 3, 1) := by decide +kernel
theorem d_M_spoil_53 : decode b_M_spoil 53 = .ok (.imul, 1) := by decide +kernel
theorem d_M_spoil_54 : decode b_M_spoil 54 = .ok (.iload 4, 2) := by decide +kernel
theorem d_M_spoil_56 : decode b_M_spoil 56 = .ok (.iadd, 1) := by decide +kernel
theorem d_M_spoil_57 : decode b_M_spoil 57 = .ok (.aload_n 0, 1) := by decide +kernel
theorem d_M_spoil_58 : decode b_M_spoil 58 = .ok (.getfield 25, 3) := by decide +kernel
theorem d_M_spoil_61 : decode b_M_spoil 61 = .ok (.iload_n 2, 1) := by decide +kernel
theorem d_M_spoil_62 : decode b_M_spoil 62 = .ok (.iaload, 1) := by decide +kernel
theorem d_M_spoil_63 : decode b_M_spoil 63 = .ok (.if_icmp .lt 6, 3) := by decide +kernel
theorem d_M_spoil_66 : decode b_M_spoil 66 = .ok (.iconst 0, 1) := by decide +kernel
theorem d_M_spoil_67 : decode b_M_spoil 67 = .ok (.istore 6, 2) := by decide +kernel
theorem d_M_spoil_69 : decode b_M_spoil 69 = .ok (.aload_n 0, 1) := by decide +kernel
theorem d_M_spoil_70 : decode b_M_spoil 70 = .ok (.iload 6, 2) := by decide +kernel
theorem d_M_spoil_72 : decode b_M_spoil 72 = .ok (.ifCond .ne 7, 3) := by decide +kernel
theorem d_M_spoil_75 : decode b_M_spoil 75 = .ok (.iconst 1, 1) := by decide +kernel
theorem d_M_spoil_76 : decode b_M_spoil 76 = .ok (.goto 22, 3) := by decide +kernel
theorem d_M_spoil_79 : decode b_M_spoil 79 = .ok (.aload_n 0, 1) := by decide +kernel
theorem d_M_spoil_80 : decode b_M_spoil 80 = .ok (.getfield 56, 3) := by decide +kernel
theorem d_M_spoil_83 : decode b_M_spoil 83 = .ok (.iload_n 1, 1) := by decide +kernel
theorem d_M_spoil_84 : decode b_M_spoil 84 = .ok (.iload_n 2, 1) := by decide +kernel
theorem d_M_spoil_85 : decode b_M_spoil 85 = .ok (.iload_n 3, 1) := by decide +kernel
theorem d_M_spoil_86 : decode b_M_spoil 86 = .ok (.invokestatic 146, 3) := by decide +kernel
theorem d_M_spoil_89 : decode b_M_spoil 89 = .ok (.baload, 1) := by decide +kernel
theorem d_M_spoil_90 : decode b_M_spoil 90 = .ok (.ifCond .ne 7, 3) := by decide +kernel
theorem d_M_spoil_93 : decode b_M_spoil 93 = .ok (.iconst 2, 1) := by decide +kernel
theorem d_M_spoil_94 : decode b_M_spoil 94 = .ok (.goto 4, 3) := by decide +kernel
theorem d_M_spoil_97 : decode b_M_spoil 97 = .ok (.iconst 0, 1) := by decide +kernel
theorem d_M_spoil_98 : decode b_M_spoil 98 = .ok (.putfield 104, 3) := by decide +kernel
theorem d_M_spoil_101 : decode b_M_spoil 101 = .ok (.aload_n 0, 1) := by decide +kernel
theorem d_M_spoil_102 : decode b_M_spoil 102 = .ok (.getfield 104, 3) := by decide +kernel
theorem d_M_spoil_105 : decode b_M_spoil 105 = .ok (.ifCond .eq 5, 3) := by decide +kernel
theorem d_M_spoil_108 : decode b_M_spoil 108 = .ok (.iconst 0, 1) := by decide +kernel
theorem d_M_spoil_109 : decode b_M_spoil 109 = .ok (.ireturn, 1) := by decide +kernel
theorem d_M_spoil_110 : decode b_M_spoil 110 = .ok (.bipush 8, 2) := by decide +kernel
theorem d_M_spoil_112 : decode b_M_spoil 112 = .ok (.iload_n 1, 1) := by decide +kernel
theorem d_M_spoil_113 : decode b_M_spoil 113 = .ok (.iload_n 2, 1) := by decide +kernel
theorem d_M_spoil_114 : decode b_M_spoil 114 = .ok (.iload_n 3, 1) := by decide +kernel
theorem d_M_spoil_115 : decode b_M_spoil 115 = .ok (.invokestatic 146, 3) := by decide +kernel
theorem d_M_spoil_118 : decode b_M_spoil 118 = .ok (.imul, 1) := by decide +kernel
theorem d_M_spoil_119 : decode b_M_spoil 119 = .ok (.iload 4, 2) := by decide +kernel
theorem d_M_spoil_121 : decode b_M_spoil 121 = .ok (.iadd, 1) := by decide +kernel
theorem d_M_spoil_122 : decode b_M_spoil 122 = .ok (.istore 7, 2) := by decide +kernel
theorem d_M_spoil_124 : decode b_M_spoil 124 = .ok (.aload_n 0, 1) := by decide +kernel
theorem d_M_spoil_125 : decode b_M_spoil 125 = .ok (.getfield 65, 3) := by decide +kernel
theorem d_M_spoil_128 : decode b_M_spoil 128 = .ok (.iload 7, 2) := by decide +kernel
theorem d_M_spoil_130 : decode b_M_spoil 130 = .ok (.dup2, 1) := by decide +kernel
theorem d_M_spoil_131 : decode b_M_spoil 131 = .ok (.iaload, 1) := by decide +kernel
theorem d_M_spoil_132 : decode b_M_spoil 132 = .ok (.iload 5, 2) := by decide +kernel
theorem d_M_spoil_134 : decode b_M_spoil 134 = .ok (.sipush 255, 3) := by decide +kernel
theorem d_M_spoil_137 : decode b_M_spoil 137 = .ok (.iand, 1) := by decide +kernel
theorem d_M_spoil_138 : decode b_M_spoil 138 = .ok (.ixor, 1) := by decide +kernel
theorem d_M_spoil_139 : decode b_M_spoil 139 = .ok (.iastore, 1) := by decide +kernel
theorem d_M_spoil_140 : decode b_M_spoil 140 = .ok (.aload_n 0, 1) := by decide +kernel
theorem d_M_spoil_141 : decode b_M_spoil 141 = .ok (.getfield 65, 3) := by decide +kernel
theorem d_M_spoil_144 : decode b_M_spoil 144 = .ok (.iload 7, 2) := by decide +kernel
theorem d_M_spoil_146 : decode b_M_spoil 146 = .ok (.iaload, 1) := by decide +kernel
theorem d_M_spoil_147 : decode b_M_spoil 147 = .ok (.ireturn, 1) := by decide +kernel
theorem d_M_isBox_0 : decode b_M_isBox 0 = .ok (.iload_n 0, 1) := by decide +kernel
theorem d_M_isBox_1 : decode b_M_isBox 1 = .ok (.invokestatic 119, 3) := by decide +kernel
theorem d_M_isBox_4 : decode b_M_isBox 4 = .ok (.ifCond .eq 15, 3) := by decide +kernel
theorem d_M_isBox_7 : decode b_M_isBox 7 = .ok (.iload_n 1, 1) := by decide +kernel
theorem d_M_isBox_8 : decode b_M_isBox 8 = .ok (.iconst 2, 1) := by decide +kernel
theorem d_M_isBox_9 : decode b_M_isBox 9 = .ok (.invokestatic 108, 3) := by decide +kernel
theorem d_M_isBox_12 : decode b_M_isBox 12 = .ok (.ifCond .eq 7, 3) := by decide +kernel
theorem d_M_isBox_15 : decode b_M_isBox 15 = .ok (.iconst 1, 1) := by decide +kernel
theorem d_M_isBox_16 : decode b_M_isBox 16 = .ok (.goto 4, 3) := by decide +kernel
theorem d_M_isBox_19 : decode b_M_isBox 19 = .ok (.iconst 0, 1) := by decide +kernel
theorem d_M_isBox_20 : decode b_M_isBox 20 = .ok (.ireturn, 1) := by decide +kernel
theorem d_M_box_0 : decode b_M_box 0 = .ok (.aload_n 0, 1) := by decide +kernel
theorem d_M_box_1 : decode b_M_box 1 = .ok (.iload_n 1, 1) := by decide +kernel
theorem d_M_box_2 : decode b_M_box 2 = .ok (.iload_n 2, 1) := by decide +kernel
theorem d_M_box_3 : decode b_M_box 3 = .ok (.invokestatic 223, 3) := by decide +kernel
theorem d_M_box_6 : decode b_M_box 6 = .ok (.ifCond .eq 15, 3) := by decide +kernel
theorem d_M_box_9 : decode b_M_box 9 = .ok (.iload_n 3, 1) := by decide +kernel
theorem d_M_box_10 : decode b_M_box 10 = .ok (.iconst 2, 1) := by decide +kernel
theorem d_M_box_11 : decode b_M_box 11 = .ok (.invokestatic 108, 3) := by decide +kernel
theorem d_M_box_14 : decode b_M_box 14 = .ok (.ifCond .eq 7, 3) := by decide +kernel
theorem d_M_box_17 : decode b_M_box 17 = .ok (.iconst 0, 1) := by decide +kernel
theorem d_M_box_18 : decode b_M_box 18 = .ok (.goto 4, 3) := by decide +kernel
theorem d_M_box_21 : decode b_M_box 21 = .ok (.iconst 1, 1) := by decide +kernel
theorem d_M_box_22 : decode b_M_box 22 = .ok (.putfield 104, 3) := by decide +kernel
theorem d_M_box_25 : decode b_M_box 25 = .ok (.aload_n 0, 1) := by decide +kernel
theorem d_M_box_26 : decode b_M_box 26 = .ok (.getfield 104, 3) := by decide +kernel
theorem d_M_box_29 : decode b_M_box 29 = .ok (.ifCond .eq 5, 3) := by decide +kernel
theorem d_M_box_32 : decode b_M_box 32 = .ok (.iconst 0, 1) := by decide +kernel
theorem d_M_box_33 : decode b_M_box 33 = .ok (.ireturn, 1) := by decide +kernel
theorem d_M_box_34 : decode b_M_box 34 = .ok (.iconst 3, 1) := by decide +kernel
theorem d_M_box_35 : decode b_M_box 35 = .ok (.iload_n 1, 1) := by decide +kernel
theorem d_M_box_36 : decode b_M_box 36 = .ok (.imul, 1) := by decide +kernel
theorem d_M_box_37 : decode b_M_box 37 = .ok (.iload_n 2, 1) := by decide +kernel
theorem d_M_box_38 : decode b_M_box 38 = .ok (.iadd, 1) := by decide +kernel
theorem d_M_box_39 : decode b_M_box 39 = .ok (.istore 4, 2) := by decide +kernel
theorem d_M_box_41 : decode b_M_box 41 = .ok (.iload_n 3, 1) := by decide +kernel
theorem d_M_box_42 : decode b_M_box 42 = .ok (.ifCond .ne 13, 3) := by decide +kernel
theorem d_M_box_45 : decode b_M_box 45 = .ok (.aload_n 0, 1) := by decide +kernel
theorem d_M_box_46 : decode b_M_box 46 = .ok (.getfield 80, 3) := by decide +kernel
theorem d_M_box_49 : decode b_M_box 49 = .ok (.iload 4, 2) := by decide +kernel
theorem d_M_box_51 : decode b_M_box 51 = .ok (.iaload, 1) := by decide +kernel
theorem d_M_box_52 : decode b_M_box 52 = .ok (.goto 24, 3) := by decide +kernel
theorem d_M_box_55 : decode b_M_box 55 = .ok (.iload_n 3, 1) := by decide +kernel
theorem d_M_box_56 : decode b_M_box 56 = .ok (.iconst 1, 1) := by decide +kernel
theorem d_M_box_57 : decode b_M_box 57 = .ok (.if_icmp .ne 12, 3) := by decide +kernel
theorem d_M_box_60 : decode b_M_box 60 = .ok (.aload_n 0, 1) := by decide +kernel
theorem d_M_box_61 : decode b_M_box 61 = .ok (.iload 4, 2) := by decide +kernel
theorem d_M_box_63 : decode b_M_box 63 = .ok (.invokevirtual 170, 3) := by decide +kernel
theorem d_M_box_66 : decode b_M_box 66 = .ok (.goto 10, 3) := by decide +kernel
theorem d_M_box_69 : decode b_M_box 69 = .ok (.aload_n 0, 1) := by decide +kernel
theorem d_M_box_70 : decode b_M_box 70 = .ok (.getfield 77, 3) := by decide +kernel
theorem d_M_box_73 : decode b_M_box 73 = .ok (.iload 4, 2) := by decide +kernel
theorem d_M_box_75 : decode b_M_box 75 = .ok (.iaload, 1) := by decide +kernel
theorem d_M_box_76 : decode b_M_box 76 = .ok (.ireturn, 1) := by decide +kernel
theorem d_M_read_0 : decode b_M_read 0 = .ok (.iconst 3, 1) := by decide +kernel
theorem d_M_read_1 : decode b_M_read 1 = .ok (.iload_n 1, 1) := by decide +kernel
theorem d_M_read_2 : decode b_M_read 2 = .ok (.imul, 1) := by decide +kernel
theorem d_M_read_3 : decode b_M_read 3 = .ok (.iload_n 2, 1) := by decide +kernel
theorem d_M_read_4 : decode b_M_read 4 = .ok (.iadd, 1) := by decide +kernel
theorem d_M_read_5 : decode b_M_read 5 = .ok (.istore 5, 2) := by decide +kernel
theorem d_M_read_7 : decode b_M_read 7 = .ok (.aload_n 0, 1) := by decide +kernel
theorem d_M_read_8 : decode b_M_read 8 = .ok (.iload_n 1, 1) := by decide +kernel
theorem d_M_read_9 : decode b_M_read 9 = .ok (.iload_n 2, 1) := by decide +kernel
theorem d_M_read_10 : decode b_M_read 10 = .ok (.invokestatic 223, 3) := by decide +kernel
theorem d_M_read_13 : decode b_M_read 13 = .ok (.ifCond .ne 7, 3) := by decide +kernel
theorem d_M_read_16 : decode b_M_read 16 = .ok (.iconst 1, 1) := by decide +kernel
theorem d_M_read_17 : decode b_M_read 17 = .ok (.goto 50, 3) := by decide +kernel
theorem d_M_read_20 : decode b_M_read 20 = .ok (.iload_n 3, 1) := by decide +kernel
theorem d_M_read_21 : decode b_M_read 21 = .ok (.ifCond .lt 41, 3) := by decide +kernel
theorem d_M_read_24 : decode b_M_read 24 = .ok (.iload_n 3, 1) := by decide +kernel
theorem d_M_read_25 : decode b_M_read 25 = .ok (.aload_n 0, 1) := by decide +kernel
theorem d_M_read_26 : decode b_M_read 26 = .ok (.getfield 80, 3) := by decide +kernel
theorem d_M_read_29 : decode b_M_read 29 = .ok (.iload 5, 2) := by decide +kernel
theorem d_M_read_31 : decode b_M_read 31 = .ok (.iaload, 1) := by decide +kernel
theorem d_M_read_32 : decode b_M_read 32 = .ok (.if_icmp .ge 30, 3) := by decide +kernel
theorem d_M_read_35 : decode b_M_read 35 = .ok (.iload 4, 2) := by decide +kernel
theorem d_M_read_37 : decode b_M_read 37 = .ok (.ifCond .lt 25, 3) := by decide +kernel
theorem d_M_read_40 : decode b_M_read 40 = .ok (.iload 4, 2) := by decide +kernel
theorem d_M_read_42 : decode b_M_read 42 = .ok (.aload_n 0, 1) := by decide +kernel
theorem d_M_read_43 : decode b_M_read 43 = .ok (.getfield 25, 3) := by decide +kernel
theorem d_M_read_46 : decode b_M_read 46 = .ok (.aload_n 0, 1) := by decide +kernel
theorem d_M_read_47 : decode b_M_read 47 = .ok (.getfield 83, 3) := by decide +kernel
theorem d_M_read_50 : decode b_M_read 50 = .ok (.bipush 16, 2) := by decide +kernel
theorem d_M_read_52 : decode b_M_read 52 = .ok (.iload 5, 2) := by decide +kernel
theorem d_M_read_54 : decode b_M_read 54 = .ok (.imul, 1) := by decide +kernel
theorem d_M_read_55 : decode b_M_read 55 = .ok (.iload_n 3, 1) := by decide +kernel
theorem d_M_read_56 : decode b_M_read 56 = .ok (.iadd, 1) := by decide +kernel
theorem d_M_read_57 : decode b_M_read 57 = .ok (.iaload, 1) := by decide +kernel
theorem d_M_read_58 : decode b_M_read 58 = .ok (.iaload, 1) := by decide +kernel
theorem d_M_read_59 : decode b_M_read 59 = .ok (.if_icmp .lt 7, 3) := by decide +kernel
theorem d_M_read_62 : decode b_M_read 62 = .ok (.iconst 2, 1) := by decide +kernel
theorem d_M_read_63 : decode b_M_read 63 = .ok (.goto 4, 3) := by decide +kernel
theorem d_M_read_66 : decode b_M_read 66 = .ok (.iconst 0, 1) := by decide +kernel
theorem d_M_read_67 : decode b_M_read 67 = .ok (.putfield 104, 3) := by decide +kernel
theorem d_M_read_70 : decode b_M_read 70 = .ok (.aload_n 0, 1) := by decide +kernel
theorem d_M_read_71 : decode b_M_read 71 = .ok (.getfield 104, 3) := by decide +kernel
theorem d_M_read_74 : decode b_M_read 74 = .ok (.ifCond .eq 7, 3) := by decide +kernel
theorem d_M_read_77 : decode b_M_read 77 = .ok (.iconst 0, 1) := by decide +kernel
theorem d_M_read_78 : decode b_M_read 78 = .ok (.goto 26, 3) := by decide +kernel
theorem d_M_read_81 : decode b_M_read 81 = .ok (.aload_n 0, 1) := by decide +kernel
theorem d_M_read_82 : decode b_M_read 82 = .ok (.getfield 53, 3) := by decide +kernel
theorem d_M_read_85 : decode b_M_read 85 = .ok (.bipush 32, 2) := by decide +kernel
theorem d_M_read_87 : decode b_M_read 87 = .ok (.aload_n 0, 1) := by decide +kernel
theorem d_M_read_88 : decode b_M_read 88 = .ok (.getfield 83, 3) := by decide +kernel
theorem d_M_read_91 : decode b_M_read 91 = .ok (.bipush 16, 2) := by decide +kernel
theorem d_M_read_93 : decode b_M_read 93 = .ok (.iload 5, 2) := by decide +kernel
theorem d_M_read_95 : decode b_M_read 95 = .ok (.imul, 1) := by decide +kernel
theorem d_M_read_96 : decode b_M_read 96 = .ok (.iload_n 3, 1) := by decide +kernel
theorem d_M_read_97 : decode b_M_read 97 = .ok (.iadd, 1) := by decide +kernel
theorem d_M_read_98 : decode b_M_read 98 = .ok (.iaload, 1) := by decide +kernel
theorem d_M_read_99 : decode b_M_read 99 = .ok (.imul, 1) := by decide +kernel
theorem d_M_read_100 : decode b_M_read 100 = .ok (.iload 4, 2) := by decide +kernel
theorem d_M_read_102 : decode b_M_read 102 = .ok (.iadd, 1) := by decide +kernel
theorem d_M_read_103 : decode b_M_read 103 = .ok (.iaload, 1) := by decide +kernel
theorem d_M_read_104 : decode b_M_read 104 = .ok (.ireturn, 1) := by decide +kernel
theorem d_M_remove_0 : decode b_M_remove 0 = .ok (.iconst 3, 1) := by decide +kernel
theorem d_M_remove_1 : decode b_M_remove 1 = .ok (.iload_n 1, 1) := by decide +kernel
theorem d_M_remove_2 : decode b_M_remove 2 = .ok (.imul, 1) := by decide +kernel
theorem d_M_remove_3 : decode b_M_remove 3 = .ok (.iload_n 2, 1) := by decide +kernel
theorem d_M_remove_4 : decode b_M_remove 4 = .ok (.iadd, 1) := by decide +kernel
theorem d_M_remove_5 : decode b_M_remove 5 = .ok (.istore 4, 2) := by decide +kernel
theorem d_M_remove_7 : decode b_M_remove 7 = .ok (.aload_n 0, 1) := by decide +kernel
theorem d_M_remove_8 : decode b_M_remove 8 = .ok (.iload_n 1, 1) := by decide +kernel
theorem d_M_remove_9 : decode b_M_remove 9 = .ok (.iload_n 2, 1) := by decide +kernel
theorem d_M_remove_10 : decode b_M_remove 10 = .ok (.invokestatic 223, 3) := by decide +kernel
theorem d_M_remove_13 : decode b_M_remove 13 = .ok (.ifCond .ne 7, 3) := by decide +kernel
theorem d_M_remove_16 : decode b_M_remove 16 = .ok (.iconst 1, 1) := by decide +kernel
theorem d_M_remove_17 : decode b_M_remove 17 = .ok (.goto 23, 3) := by decide +kernel
theorem d_M_remove_20 : decode b_M_remove 20 = .ok (.iload_n 3, 1) := by decide +kernel
theorem d_M_remove_21 : decode b_M_remove 21 = .ok (.ifCond .lt 14, 3) := by decide +kernel
theorem d_M_remove_24 : decode b_M_remove 24 = .ok (.iload_n 3, 1) := by decide +kernel
theorem d_M_remove_25 : decode b_M_remove 25 = .ok (.aload_n 0, 1) := by decide +kernel
theorem d_M_remove_26 : decode b_M_remove 26 = .ok (.getfield 80, 3) := by decide +kernel
theorem d_M_remove_29 : decode b_M_remove 29 = .ok (.iload 4, 2) := by decide +kernel
theorem d_M_remove_31 : decode b_M_remove 31 = .ok (.iaload, 1) := by decide +kernel
theorem d_M_remove_32 : decode b_M_remove 32 = .ok (.if_icmp .lt 7, 3) := by decide +kernel
theorem d_M_remove_35 : decode b_M_remove 35 = .ok (.iconst 2, 1) := by decide +kernel
theorem d_M_remove_36 : decode b_M_remove 36 = .ok (.goto 4, 3) := by decide +kernel
theorem d_M_remove_39 : decode b_M_remove 39 = .ok (.iconst 0, 1) := by decide +kernel
theorem d_M_remove_40 : decode b_M_remove 40 = .ok (.putfield 104, 3) := by decide +kernel
theorem d_M_remove_43 : decode b_M_remove 43 = .ok (.aload_n 0, 1) := by decide +kernel
theorem d_M_remove_44 : decode b_M_remove 44 = .ok (.getfield 104, 3) := by decide +kernel
theorem d_M_remove_47 : decode b_M_remove 47 = .ok (.ifCond .eq 5, 3) := by decide +kernel
theorem d_M_remove_50 : decode b_M_remove 50 = .ok (.iconst 0, 1) := by decide +kernel
theorem d_M_remove_51 : decode b_M_remove 51 = .ok (.ireturn, 1) := by decide +kernel
theorem d_M_remove_52 : decode b_M_remove 52 = .ok (.aload_n 0, 1) := by decide +kernel
theorem d_M_remove_53 : decode b_M_remove 53 = .ok (.getfield 83, 3) := by decide +kernel
theorem d_M_remove_56 : decode b_M_remove 56 = .ok (.bipush 16, 2) := by decide +kernel
theorem d_M_remove_58 : decode b_M_remove 58 = .ok (.iload 4, 2) := by decide +kernel
theorem d_M_remove_60 : decode b_M_remove 60 = .ok (.imul, 1) := by decide +kernel
theorem d_M_remove_61 : decode b_M_remove 61 = .ok (.iload_n 3, 1) := by decide +kernel
theorem d_M_remove_62 : decode b_M_remove 62 = .ok (.iadd, 1) := by decide +kernel
theorem d_M_remove_63 : decode b_M_remove 63 = .ok (.iaload, 1) := by decide +kernel
theorem d_M_remove_64 : decode b_M_remove 64 = .ok (.istore 5, 2) := by decide +kernel
theorem d_M_remove_66 : decode b_M_remove 66 = .ok (.aload_n 0, 1) := by decide +kernel
theorem d_M_remove_67 : decode b_M_remove 67 = .ok (.getfield 80, 3) := by decide +kernel
theorem d_M_remove_70 : decode b_M_remove 70 = .ok (.iload 4, 2) := by decide +kernel
theorem d_M_remove_72 : decode b_M_remove 72 = .ok (.dup2, 1) := by decide +kernel
theorem d_M_remove_73 : decode b_M_remove 73 = .ok (.iaload, 1) := by decide +kernel
theorem d_M_remove_74 : decode b_M_remove 74 = .ok (.iconst 1, 1) := by decide +kernel
theorem d_M_remove_75 : decode b_M_remove 75 = .ok (.isub, 1) := by decide +kernel
theorem d_M_remove_76 : decode b_M_remove 76 = .ok (.iastore, 1) := by decide +kernel
theorem d_M_remove_77 : decode b_M_remove 77 = .ok (.iload_n 3, 1) := by decide +kernel
theorem d_M_remove_78 : decode b_M_remove 78 = .ok (.istore 6, 2) := by decide +kernel
theorem d_M_remove_80 : decode b_M_remove 80 = .ok (.iload 6, 2) := by decide +kernel
theorem d_M_remove_82 : decode b_M_remove 82 = .ok (.aload_n 0, 1) := by decide +kernel
theorem d_M_remove_83 : decode b_M_remove 83 = .ok (.getfield 80, 3) := by decide +kernel
theorem d_M_remove_86 : decode b_M_remove 86 = .ok (.iload 4, 2) := by decide +kernel
theorem d_M_remove_88 : decode b_M_remove 88 = .ok (.iaload, 1) := by decide +kernel
theorem d_M_remove_89 : decode b_M_remove 89 = .ok (.if_icmp .ge 37, 3) := by decide +kernel
theorem d_M_remove_92 : decode b_M_remove 92 = .ok (.aload_n 0, 1) := by decide +kernel
theorem d_M_remove_93 : decode b_M_remove 93 = .ok (.getfield 83, 3) := by decide +kernel
theorem d_M_remove_96 : decode b_M_remove 96 = .ok (.bipush 16, 2) := by decide +kernel
theorem d_M_remove_98 : decode b_M_remove 98 = .ok (.iload 4, 2) := by decide +kernel
theorem d_M_remove_100 : decode b_M_remove 100 = .ok (.imul, 1) := by decide +kernel
theorem d_M_remove_101 : decode b_M_remove 101 = .ok (.iload 6, 2) := by decide +kernel
theorem d_M_remove_103 : decode b_M_remove 103 = .ok (.iadd, 1) := by decide +kernel
theorem d_M_remove_104 : decode b_M_remove 104 = .ok (.aload_n 0, 1) := by decide +kernel
theorem d_M_remove_105 : decode b_M_remove 105 = .ok (.getfield 83, 3) := by decide +kernel
theorem d_M_remove_108 : decode b_M_remove 108 = .ok (.bipush 16, 2) := by decide +kernel
theorem d_M_remove_110 : decode b_M_remove 110 = .ok (.iload 4, 2) := by decide +kernel
theorem d_M_remove_112 : decode b_M_remove 112 = .ok (.imul, 1) := by decide +kernel
theorem d_M_remove_113 : decode b_M_remove 113 = .ok (.iload 6, 2) := by decide +kernel
theorem d_M_remove_115 : decode b_M_remove 115 = .ok (.iadd, 1) := by decide +kernel
theorem d_M_remove_116 : decode b_M_remove 116 = .ok (.iconst 1, 1) := by decide +kernel
theorem d_M_remove_117 : decode b_M_remove 117 = .ok (.iadd, 1) := by decide +kernel
theorem d_M_remove_118 : decode b_M_remove 118 = .ok (.iaload, 1) := by decide +kernel
theorem d_M_remove_119 : decode b_M_remove 119 = .ok (.iastore, 1) := by decide +kernel
theorem d_M_remove_120 : decode b_M_remove 120 = .ok (.iinc 6 1, 3) := by decide +kernel
theorem d_M_remove_123 : decode b_M_remove 123 = .ok (.goto (-43), 3) := by decide +kernel
theorem d_M_remove_126 : decode b_M_remove 126 = .ok (.aload_n 0, 1) := by decide +kernel
theorem d_M_remove_127 : decode b_M_remove 127 = .ok (.iload_n 1, 1) := by decide +kernel
theorem d_M_remove_128 : decode b_M_remove 128 = .ok (.invokevirtual 177, 3) := by decide +kernel
theorem d_M_remove_131 : decode b_M_remove 131 = .ok (.iload 5, 2) := by decide +kernel
theorem d_M_remove_133 : decode b_M_remove 133 = .ok (.ireturn, 1) := by decide +kernel
theorem d_M_status_0 : decode b_M_status 0 = .ok (.aload_n 0, 1) := by decide +kernel
theorem d_M_status_1 : decode b_M_status 1 = .ok (.aload_n 0, 1) := by decide +kernel
theorem d_M_status_2 : decode b_M_status 2 = .ok (.iload_n 1, 1) := by decide +kernel
theorem d_M_status_3 : decode b_M_status 3 = .ok (.invokevirtual 220, 3) := by decide +kernel
theorem d_M_status_6 : decode b_M_status 6 = .ok (.ifCond .eq 7, 3) := by decide +kernel
theorem d_M_status_9 : decode b_M_status 9 = .ok (.iconst 0, 1) := by decide +kernel
theorem d_M_status_10 : decode b_M_status 10 = .ok (.goto 4, 3) := by decide +kernel
theorem d_M_status_13 : decode b_M_status 13 = .ok (.iconst 1, 1) := by decide +kernel
theorem d_M_status_14 : decode b_M_status 14 = .ok (.putfield 104, 3) := by decide +kernel
theorem d_M_status_17 : decode b_M_status 17 = .ok (.aload_n 0, 1) := by decide +kernel
theorem d_M_status_18 : decode b_M_status 18 = .ok (.getfield 104, 3) := by decide +kernel
theorem d_M_status_21 : decode b_M_status 21 = .ok (.ifCond .eq 5, 3) := by decide +kernel
theorem d_M_status_24 : decode b_M_status 24 = .ok (.iconst 0, 1) := by decide +kernel
theorem d_M_status_25 : decode b_M_status 25 = .ok (.ireturn, 1) := by decide +kernel
theorem d_M_status_26 : decode b_M_status 26 = .ok (.aload_n 0, 1) := by decide +kernel
theorem d_M_status_27 : decode b_M_status 27 = .ok (.getfield 68, 3) := by decide +kernel
theorem d_M_status_30 : decode b_M_status 30 = .ok (.bipush 16, 2) := by decide +kernel
theorem d_M_status_32 : decode b_M_status 32 = .ok (.aload_n 0, 1) := by decide +kernel
theorem d_M_status_33 : decode b_M_status 33 = .ok (.getfield 31, 3) := by decide +kernel
theorem d_M_status_36 : decode b_M_status 36 = .ok (.iload_n 1, 1) := by decide +kernel
theorem d_M_status_37 : decode b_M_status 37 = .ok (.iaload, 1) := by decide +kernel
theorem d_M_status_38 : decode b_M_status 38 = .ok (.imul, 1) := by decide +kernel
theorem d_M_status_39 : decode b_M_status 39 = .ok (.iload_n 1, 1) := by decide +kernel
theorem d_M_status_40 : decode b_M_status 40 = .ok (.iadd, 1) := by decide +kernel
theorem d_M_status_41 : decode b_M_status 41 = .ok (.iaload, 1) := by decide +kernel
theorem d_M_status_42 : decode b_M_status 42 = .ok (.istore_n 2, 1) := by decide +kernel
theorem d_M_status_43 : decode b_M_status 43 = .ok (.iload_n 2, 1) := by decide +kernel
theorem d_M_status_44 : decode b_M_status 44 = .ok (.ifCond .eq 7, 3) := by decide +kernel
theorem d_M_status_47 : decode b_M_status 47 = .ok (.iload_n 2, 1) := by decide +kernel
theorem d_M_status_48 : decode b_M_status 48 = .ok (.goto 17, 3) := by decide +kernel
theorem d_M_status_51 : decode b_M_status 51 = .ok (.aload_n 0, 1) := by decide +kernel
theorem d_M_status_52 : decode b_M_status 52 = .ok (.getfield 49, 3) := by decide +kernel
theorem d_M_status_55 : decode b_M_status 55 = .ok (.iload_n 1, 1) := by decide +kernel
theorem d_M_status_56 : decode b_M_status 56 = .ok (.baload, 1) := by decide +kernel
theorem d_M_status_57 : decode b_M_status 57 = .ok (.ifCond .eq 7, 3) := by decide +kernel
theorem d_M_status_60 : decode b_M_status 60 = .ok (.iconst 3, 1) := by decide +kernel
theorem d_M_status_61 : decode b_M_status 61 = .ok (.goto 4, 3) := by decide +kernel
theorem d_M_status_64 : decode b_M_status 64 = .ok (.iconst 0, 1) := by decide +kernel
theorem d_M_status_65 : decode b_M_status 65 = .ok (.ireturn, 1) := by decide +kernel
theorem d_M_custodians_0 : decode b_M_custodians 0 = .ok (.aload_n 0, 1) := by decide +kernel
theorem d_M_custodians_1 : decode b_M_custodians 1 = .ok (.aload_n 0, 1) := by decide +kernel
theorem d_M_custodians_2 : decode b_M_custodians 2 = .ok (.iload_n 1, 1) := by decide +kernel
theorem d_M_custodians_3 : decode b_M_custodians 3 = .ok (.invokevirtual 220, 3) := by decide +kernel
theorem d_M_custodians_6 : decode b_M_custodians 6 = .ok (.ifCond .eq 7, 3) := by decide +kernel
theorem d_M_custodians_9 : decode b_M_custodians 9 = .ok (.iconst 0, 1) := by decide +kernel
theorem d_M_custodians_10 : decode b_M_custodians 10 = .ok (.goto 4, 3) := by decide +kernel
theorem d_M_custodians_13 : decode b_M_custodians 13 = .ok (.iconst 1, 1) := by decide +kernel
theorem d_M_custodians_14 : decode b_M_custodians 14 = .ok (.putfield 104, 3) := by decide +kernel
theorem d_M_custodians_17 : decode b_M_custodians 17 = .ok (.iconst 0, 1) := by decide +kernel
theorem d_M_custodians_18 : decode b_M_custodians 18 = .ok (.istore_n 2, 1) := by decide +kernel
theorem d_M_custodians_19 : decode b_M_custodians 19 = .ok (.iconst 0, 1) := by decide +kernel
theorem d_M_custodians_20 : decode b_M_custodians 20 = .ok (.istore_n 3, 1) := by decide +kernel
theorem d_M_custodians_21 : decode b_M_custodians 21 = .ok (.iload_n 3, 1) := by decide +kernel
theorem d_M_custodians_22 : decode b_M_custodians 22 = .ok (.bipush 12, 2) := by decide +kernel
theorem d_M_custodians_24 : decode b_M_custodians 24 = .ok (.if_icmp .ge 52, 3) := by decide +kernel
theorem d_M_custodians_27 : decode b_M_custodians 27 = .ok (.aload_n 0, 1) := by decide +kernel
theorem d_M_custodians_28 : decode b_M_custodians 28 = .ok (.getfield 104, 3) := by decide +kernel
theorem d_M_custodians_31 : decode b_M_custodians 31 = .ok (.ifCond .ne 45, 3) := by decide +kernel
theorem d_M_custodians_34 : decode b_M_custodians 34 = .ok (.iconst 0, 1) := by decide +kernel
theorem d_M_custodians_35 : decode b_M_custodians 35 = .ok (.istore 4, 2) := by decide +kernel
theorem d_M_custodians_37 : decode b_M_custodians 37 = .ok (.iload 4, 2) := by decide +kernel
theorem d_M_custodians_39 : decode b_M_custodians 39 = .ok (.iconst 4, 1) := by decide +kernel
theorem d_M_custodians_40 : decode b_M_custodians 40 = .ok (.if_icmp .ge 30, 3) := by decide +kernel
theorem d_M_custodians_43 : decode b_M_custodians 43 = .ok (.aload_n 0, 1) := by decide +kernel
theorem d_M_custodians_44 : decode b_M_custodians 44 = .ok (.getfield 56, 3) := by decide +kernel
theorem d_M_custodians_47 : decode b_M_custodians 47 = .ok (.iload_n 3, 1) := by decide +kernel
theorem d_M_custodians_48 : decode b_M_custodians 48 = .ok (.iload_n 1, 1) := by decide +kernel
theorem d_M_custodians_49 : decode b_M_custodians 49 = .ok (.iload 4, 2) := by decide +kernel
theorem d_M_custodians_51 : decode b_M_custodians 51 = .ok (.invokestatic 146, 3) := by decide +kernel
theorem d_M_custodians_54 : decode b_M_custodians 54 = .ok (.baload, 1) := by decide +kernel
theorem d_M_custodians_55 : decode b_M_custodians 55 = .ok (.ifCond .eq 9, 3) := by decide +kernel
theorem d_M_custodians_58 : decode b_M_custodians 58 = .ok (.iload_n 2, 1) := by decide +kernel
theorem d_M_custodians_59 : decode b_M_custodians 59 = .ok (.iconst 1, 1) := by decide +kernel
theorem d_M_custodians_60 : decode b_M_custodians 60 = .ok (.iload_n 3, 1) := by decide +kernel
theorem d_M_custodians_61 : decode b_M_custodians 61 = .ok (.ishl, 1) := by decide +kernel
theorem d_M_custodians_62 : decode b_M_custodians 62 = .ok (.ior, 1) := by decide +kernel
theorem d_M_custodians_63 : decode b_M_custodians 63 = .ok (.istore_n 2, 1) := by decide +kernel
theorem d_M_custodians_64 : decode b_M_custodians 64 = .ok (.iinc 4 1, 3) := by decide +kernel
theorem d_M_custodians_67 : decode b_M_custodians 67 = .ok (.goto (-30), 3) := by decide +kernel
theorem d_M_custodians_70 : decode b_M_custodians 70 = .ok (.iinc 3 1, 3) := by decide +kernel
theorem d_M_custodians_73 : decode b_M_custodians 73 = .ok (.goto (-52), 3) := by decide +kernel
theorem d_M_custodians_76 : decode b_M_custodians 76 = .ok (.iload_n 2, 1) := by decide +kernel
theorem d_M_custodians_77 : decode b_M_custodians 77 = .ok (.ireturn, 1) := by decide +kernel
theorem d_M_promise_0 : decode b_M_promise 0 = .ok (.aload_n 0, 1) := by decide +kernel
theorem d_M_promise_1 : decode b_M_promise 1 = .ok (.aload_n 0, 1) := by decide +kernel
theorem d_M_promise_2 : decode b_M_promise 2 = .ok (.iload_n 1, 1) := by decide +kernel
theorem d_M_promise_3 : decode b_M_promise 3 = .ok (.invokevirtual 220, 3) := by decide +kernel
theorem d_M_promise_6 : decode b_M_promise 6 = .ok (.ifCond .eq 7, 3) := by decide +kernel
theorem d_M_promise_9 : decode b_M_promise 9 = .ok (.iconst 0, 1) := by decide +kernel
theorem d_M_promise_10 : decode b_M_promise 10 = .ok (.goto 4, 3) := by decide +kernel
theorem d_M_promise_13 : decode b_M_promise 13 = .ok (.iconst 1, 1) := by decide +kernel
theorem d_M_promise_14 : decode b_M_promise 14 = .ok (.putfield 104, 3) := by decide +kernel
theorem d_M_promise_17 : decode b_M_promise 17 = .ok (.aload_n 0, 1) := by decide +kernel
theorem d_M_promise_18 : decode b_M_promise 18 = .ok (.getfield 104, 3) := by decide +kernel
theorem d_M_promise_21 : decode b_M_promise 21 = .ok (.ifCond .eq 7, 3) := by decide +kernel
theorem d_M_promise_24 : decode b_M_promise 24 = .ok (.iconst 0, 1) := by decide +kernel
theorem d_M_promise_25 : decode b_M_promise 25 = .ok (.goto 9, 3) := by decide +kernel
theorem d_M_promise_28 : decode b_M_promise 28 = .ok (.aload_n 0, 1) := by decide +kernel
theorem d_M_promise_29 : decode b_M_promise 29 = .ok (.getfield 46, 3) := by decide +kernel
theorem d_M_promise_32 : decode b_M_promise 32 = .ok (.iload_n 1, 1) := by decide +kernel
theorem d_M_promise_33 : decode b_M_promise 33 = .ok (.iaload, 1) := by decide +kernel
theorem d_M_promise_34 : decode b_M_promise 34 = .ok (.ireturn, 1) := by decide +kernel
theorem d_M_store_0 : decode b_M_store 0 = .ok (.aload_n 0, 1) := by decide +kernel
theorem d_M_store_1 : decode b_M_store 1 = .ok (.iload_n 1, 1) := by decide +kernel
theorem d_M_store_2 : decode b_M_store 2 = .ok (.bipush 11, 2) := by decide +kernel
theorem d_M_store_4 : decode b_M_store 4 = .ok (.invokestatic 108, 3) := by decide +kernel
theorem d_M_store_7 : decode b_M_store 7 = .ok (.ifCond .eq 15, 3) := by decide +kernel
theorem d_M_store_10 : decode b_M_store 10 = .ok (.iload_n 2, 1) := by decide +kernel
theorem d_M_store_11 : decode b_M_store 11 = .ok (.iconst 3, 1) := by decide +kernel
theorem d_M_store_12 : decode b_M_store 12 = .ok (.invokestatic 108, 3) := by decide +kernel
theorem d_M_store_15 : decode b_M_store 15 = .ok (.ifCond .eq 7, 3) := by decide +kernel
theorem d_M_store_18 : decode b_M_store 18 = .ok (.iconst 0, 1) := by decide +kernel
theorem d_M_store_19 : decode b_M_store 19 = .ok (.goto 4, 3) := by decide +kernel
theorem d_M_store_22 : decode b_M_store 22 = .ok (.iconst 1, 1) := by decide +kernel
theorem d_M_store_23 : decode b_M_store 23 = .ok (.putfield 104, 3) := by decide +kernel
theorem d_M_store_26 : decode b_M_store 26 = .ok (.aload_n 0, 1) := by decide +kernel
theorem d_M_store_27 : decode b_M_store 27 = .ok (.getfield 104, 3) := by decide +kernel
theorem d_M_store_30 : decode b_M_store 30 = .ok (.ifCond .eq 5, 3) := by decide +kernel
theorem d_M_store_33 : decode b_M_store 33 = .ok (.iconst 0, 1) := by decide +kernel
theorem d_M_store_34 : decode b_M_store 34 = .ok (.ireturn, 1) := by decide +kernel
theorem d_M_store_35 : decode b_M_store 35 = .ok (.iload_n 2, 1) := by decide +kernel
theorem d_M_store_36 : decode b_M_store 36 = .ok (.ifCond .ne 11, 3) := by decide +kernel
theorem d_M_store_39 : decode b_M_store 39 = .ok (.aload_n 0, 1) := by decide +kernel
theorem d_M_store_40 : decode b_M_store 40 = .ok (.iload_n 1, 1) := by decide +kernel
theorem d_M_store_41 : decode b_M_store 41 = .ok (.invokevirtual 183, 3) := by decide +kernel
theorem d_M_store_44 : decode b_M_store 44 = .ok (.goto 37, 3) := by decide +kernel
theorem d_M_store_47 : decode b_M_store 47 = .ok (.iload_n 2, 1) := by decide +kernel
theorem d_M_store_48 : decode b_M_store 48 = .ok (.iconst 1, 1) := by decide +kernel
theorem d_M_store_49 : decode b_M_store 49 = .ok (.if_icmp .ne 12, 3) := by decide +kernel
theorem d_M_store_52 : decode b_M_store 52 = .ok (.aload_n 0, 1) := by decide +kernel
theorem d_M_store_53 : decode b_M_store 53 = .ok (.getfield 22, 3) := by decide +kernel
theorem d_M_store_56 : decode b_M_store 56 = .ok (.iload_n 1, 1) := by decide +kernel
theorem d_M_store_57 : decode b_M_store 57 = .ok (.iaload, 1) := by decide +kernel
theorem d_M_store_58 : decode b_M_store 58 = .ok (.goto 23, 3) := by decide +kernel
theorem d_M_store_61 : decode b_M_store 61 = .ok (.iload_n 2, 1) := by decide +kernel
theorem d_M_store_62 : decode b_M_store 62 = .ok (.iconst 2, 1) := by decide +kernel
theorem d_M_store_63 : decode b_M_store 63 = .ok (.if_icmp .ne 12, 3) := by decide +kernel
theorem d_M_store_66 : decode b_M_store 66 = .ok (.aload_n 0, 1) := by decide +kernel
theorem d_M_store_67 : decode b_M_store 67 = .ok (.getfield 71, 3) := by decide +kernel
theorem d_M_store_70 : decode b_M_store 70 = .ok (.iload_n 1, 1) := by decide +kernel
theorem d_M_store_71 : decode b_M_store 71 = .ok (.iaload, 1) := by decide +kernel
theorem d_M_store_72 : decode b_M_store 72 = .ok (.goto 9, 3) := by decide +kernel
theorem d_M_store_75 : decode b_M_store 75 = .ok (.aload_n 0, 1) := by decide +kernel
theorem d_M_store_76 : decode b_M_store 76 = .ok (.getfield 74, 3) := by decide +kernel
theorem d_M_store_79 : decode b_M_store 79 = .ok (.iload_n 1, 1) := by decide +kernel
theorem d_M_store_80 : decode b_M_store 80 = .ok (.iaload, 1) := by decide +kernel
theorem d_M_store_81 : decode b_M_store 81 = .ok (.ireturn, 1) := by decide +kernel

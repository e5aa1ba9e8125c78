theorem d_S_room_0 : decode b_S_room 0 = .ok (.aload_n 0, 1) := by decide +kernel
theorem d_S_room_1 : decode b_S_room 1 = .ok (.getfield 9, 3) := by decide +kernel
theorem d_S_room_4 : decode b_S_room 4 = .ok (.aload_n 0, 1) := by decide +kernel
theorem d_S_room_5 : decode b_S_room 5 = .ok (.getfield 35, 3) := by decide +kernel
theorem d_S_room_8 : decode b_S_room 8 = .ok (.isub, 1) := by decide +kernel
theorem d_S_room_9 : decode b_S_room 9 = .ok (.ireturn, 1) := by decide +kernel
theorem d_S_has_0 : decode b_S_has 0 = .ok (.aload_n 0, 1) := by decide +kernel
theorem d_S_has_1 : decode b_S_has 1 = .ok (.getfield 15, 3) := by decide +kernel
theorem d_S_has_4 : decode b_S_has 4 = .ok (.iload_n 1, 1) := by decide +kernel
theorem d_S_has_5 : decode b_S_has 5 = .ok (.iaload, 1) := by decide +kernel
theorem d_S_has_6 : decode b_S_has 6 = .ok (.iconst (-1), 1) := by decide +kernel
theorem d_S_has_7 : decode b_S_has 7 = .ok (.if_icmp .eq 7, 3) := by decide +kernel
theorem d_S_has_10 : decode b_S_has 10 = .ok (.iconst 1, 1) := by decide +kernel
theorem d_S_has_11 : decode b_S_has 11 = .ok (.goto 4, 3) := by decide +kernel
theorem d_S_has_14 : decode b_S_has 14 = .ok (.iconst 0, 1) := by decide +kernel
theorem d_S_has_15 : decode b_S_has 15 = .ok (.ireturn, 1) := by decide +kernel
theorem d_S_countOf_0 : decode b_S_countOf 0 = .ok (.iconst 0, 1) := by decide +kernel
theorem d_S_countOf_1 : decode b_S_countOf 1 = .ok (.istore_n 2, 1) := by decide +kernel
theorem d_S_countOf_2 : decode b_S_countOf 2 = .ok (.iload_n 1, 1) := by decide +kernel
theorem d_S_countOf_3 : decode b_S_countOf 3 = .ok (.iconst 4, 1) := by decide +kernel
theorem d_S_countOf_4 : decode b_S_countOf 4 = .ok (.imul, 1) := by decide +kernel
theorem d_S_countOf_5 : decode b_S_countOf 5 = .ok (.istore_n 3, 1) := by decide +kernel
theorem d_S_countOf_6 : decode b_S_countOf 6 = .ok (.iload_n 3, 1) := by decide +kernel
theorem d_S_countOf_7 : decode b_S_countOf 7 = .ok (.iload_n 1, 1) := by decide +kernel
theorem d_S_countOf_8 : decode b_S_countOf 8 = .ok (.iconst 1, 1) := by decide +kernel
theorem d_S_countOf_9 : decode b_S_countOf 9 = .ok (.iadd, 1) := by decide +kernel
theorem d_S_countOf_10 : decode b_S_countOf 10 = .ok (.iconst 4, 1) := by decide +kernel
theorem d_S_countOf_11 : decode b_S_countOf 11 = .ok (.imul, 1) := by decide +kernel
theorem d_S_countOf_12 : decode b_S_countOf 12 = .ok (.if_icmp .ge 20, 3) := by decide +kernel
theorem d_S_countOf_15 : decode b_S_countOf 15 = .ok (.aload_n 0, 1) := by decide +kernel
theorem d_S_countOf_16 : decode b_S_countOf 16 = .ok (.iload_n 3, 1) := by decide +kernel
theorem d_S_countOf_17 : decode b_S_countOf 17 = .ok (.invokevirtual 38, 3) := by decide +kernel
theorem d_S_countOf_20 : decode b_S_countOf 20 = .ok (.ifCond .eq 6, 3) := by decide +kernel
theorem d_S_countOf_23 : decode b_S_countOf 23 = .ok (.iinc 2 1, 3) := by decide +kernel
theorem d_S_countOf_26 : decode b_S_countOf 26 = .ok (.iinc 3 1, 3) := by decide +kernel
theorem d_S_countOf_29 : decode b_S_countOf 29 = .ok (.goto (-23), 3) := by decide +kernel
theorem d_S_countOf_32 : decode b_S_countOf 32 = .ok (.iload_n 2, 1) := by decide +kernel
theorem d_S_countOf_33 : decode b_S_countOf 33 = .ok (.ireturn, 1) := by decide +kernel
theorem d_S_take_0 : decode b_S_take 0 = .ok (.aload_n 0, 1) := by decide +kernel
theorem d_S_take_1 : decode b_S_take 1 = .ok (.getfield 15, 3) := by decide +kernel
theorem d_S_take_4 : decode b_S_take 4 = .ok (.iload_n 1, 1) := by decide +kernel
theorem d_S_take_5 : decode b_S_take 5 = .ok (.iload 4, 2) := by decide +kernel
theorem d_S_take_7 : decode b_S_take 7 = .ok (.iastore, 1) := by decide +kernel
theorem d_S_take_8 : decode b_S_take 8 = .ok (.aload_n 0, 1) := by decide +kernel
theorem d_S_take_9 : decode b_S_take 9 = .ok (.getfield 25, 3) := by decide +kernel
theorem d_S_take_12 : decode b_S_take 12 = .ok (.iload_n 1, 1) := by decide +kernel
theorem d_S_take_13 : decode b_S_take 13 = .ok (.iload 4, 2) := by decide +kernel
theorem d_S_take_15 : decode b_S_take 15 = .ok (.iastore, 1) := by decide +kernel
theorem d_S_take_16 : decode b_S_take 16 = .ok (.aload_n 0, 1) := by decide +kernel
theorem d_S_take_17 : decode b_S_take 17 = .ok (.getfield 28, 3) := by decide +kernel
theorem d_S_take_20 : decode b_S_take 20 = .ok (.iload_n 1, 1) := by decide +kernel
theorem d_S_take_21 : decode b_S_take 21 = .ok (.lload_n 2, 1) := by decide +kernel
theorem d_S_take_22 : decode b_S_take 22 = .ok (.lastore, 1) := by decide +kernel
theorem d_S_take_23 : decode b_S_take 23 = .ok (.aload_n 0, 1) := by decide +kernel
theorem d_S_take_24 : decode b_S_take 24 = .ok (.dup, 1) := by decide +kernel
theorem d_S_take_25 : decode b_S_take 25 = .ok (.getfield 35, 3) := by decide +kernel
theorem d_S_take_28 : decode b_S_take 28 = .ok (.iconst 1, 1) := by decide +kernel
theorem d_S_take_29 : decode b_S_take 29 = .ok (.iadd, 1) := by decide +kernel
theorem d_S_take_30 : decode b_S_take 30 = .ok (.putfield 35, 3) := by decide +kernel
theorem d_S_take_33 : decode b_S_take 33 = .ok (.return_, 1) := by decide +kernel
theorem d_S_free_0 : decode b_S_free 0 = .ok (.aload_n 0, 1) := by decide +kernel
theorem d_S_free_1 : decode b_S_free 1 = .ok (.iload_n 1, 1) := by decide +kernel
theorem d_S_free_2 : decode b_S_free 2 = .ok (.invokevirtual 38, 3) := by decide +kernel
theorem d_S_free_5 : decode b_S_free 5 = .ok (.ifCond .eq 20, 3) := by decide +kernel
theorem d_S_free_8 : decode b_S_free 8 = .ok (.aload_n 0, 1) := by decide +kernel
theorem d_S_free_9 : decode b_S_free 9 = .ok (.getfield 15, 3) := by decide +kernel
theorem d_S_free_12 : decode b_S_free 12 = .ok (.iload_n 1, 1) := by decide +kernel
theorem d_S_free_13 : decode b_S_free 13 = .ok (.iconst (-1), 1) := by decide +kernel
theorem d_S_free_14 : decode b_S_free 14 = .ok (.iastore, 1) := by decide +kernel
theorem d_S_free_15 : decode b_S_free 15 = .ok (.aload_n 0, 1) := by decide +kernel
theorem d_S_free_16 : decode b_S_free 16 = .ok (.dup, 1) := by decide +kernel
theorem d_S_free_17 : decode b_S_free 17 = .ok (.getfield 35, 3) := by decide +kernel
theorem d_S_free_20 : decode b_S_free 20 = .ok (.iconst 1, 1) := by decide +kernel
theorem d_S_free_21 : decode b_S_free 21 = .ok (.isub, 1) := by decide +kernel
theorem d_S_free_22 : decode b_S_free 22 = .ok (.putfield 35, 3) := by decide +kernel
theorem d_S_free_25 : decode b_S_free 25 = .ok (.return_, 1) := by decide +kernel
theorem d_S_freeAllOf_0 : decode b_S_freeAllOf 0 = .ok (.iload_n 1, 1) := by decide +kernel
theorem d_S_freeAllOf_1 : decode b_S_freeAllOf 1 = .ok (.iconst 4, 1) := by decide +kernel
theorem d_S_freeAllOf_2 : decode b_S_freeAllOf 2 = .ok (.imul, 1) := by decide +kernel
theorem d_S_freeAllOf_3 : decode b_S_freeAllOf 3 = .ok (.istore_n 2, 1) := by decide +kernel
theorem d_S_freeAllOf_4 : decode b_S_freeAllOf 4 = .ok (.iload_n 2, 1) := by decide +kernel
theorem d_S_freeAllOf_5 : decode b_S_freeAllOf 5 = .ok (.iload_n 1, 1) := by decide +kernel
theorem d_S_freeAllOf_6 : decode b_S_freeAllOf 6 = .ok (.iconst 1, 1) := by decide +kernel
theorem d_S_freeAllOf_7 : decode b_S_freeAllOf 7 = .ok (.iadd, 1) := by decide +kernel
theorem d_S_freeAllOf_8 : decode b_S_freeAllOf 8 = .ok (.iconst 4, 1) := by decide +kernel
theorem d_S_freeAllOf_9 : decode b_S_freeAllOf 9 = .ok (.imul, 1) := by decide +kernel
theorem d_S_freeAllOf_10 : decode b_S_freeAllOf 10 = .ok (.if_icmp .ge 14, 3) := by decide +kernel
theorem d_S_freeAllOf_13 : decode b_S_freeAllOf 13 = .ok (.aload_n 0, 1) := by decide +kernel
theorem d_S_freeAllOf_14 : decode b_S_freeAllOf 14 = .ok (.iload_n 2, 1) := by decide +kernel
theorem d_S_freeAllOf_15 : decode b_S_freeAllOf 15 = .ok (.invokevirtual 42, 3) := by decide +kernel
theorem d_S_freeAllOf_18 : decode b_S_freeAllOf 18 = .ok (.iinc 2 1, 3) := by decide +kernel
theorem d_S_freeAllOf_21 : decode b_S_freeAllOf 21 = .ok (.goto (-17), 3) := by decide +kernel
theorem d_S_freeAllOf_24 : decode b_S_freeAllOf 24 = .ok (.return_, 1) := by decide +kernel
theorem d_S_learnHops_0 : decode b_S_learnHops 0 = .ok (.aload_n 0, 1) := by decide +kernel
theorem d_S_learnHops_1 : decode b_S_learnHops 1 = .ok (.getfield 25, 3) := by decide +kernel
theorem d_S_learnHops_4 : decode b_S_learnHops 4 = .ok (.iload_n 1, 1) := by decide +kernel
theorem d_S_learnHops_5 : decode b_S_learnHops 5 = .ok (.iload_n 2, 1) := by decide +kernel
theorem d_S_learnHops_6 : decode b_S_learnHops 6 = .ok (.iastore, 1) := by decide +kernel
theorem d_S_learnHops_7 : decode b_S_learnHops 7 = .ok (.iload_n 2, 1) := by decide +kernel
theorem d_S_learnHops_8 : decode b_S_learnHops 8 = .ok (.aload_n 0, 1) := by decide +kernel
theorem d_S_learnHops_9 : decode b_S_learnHops 9 = .ok (.getfield 15, 3) := by decide +kernel
theorem d_S_learnHops_12 : decode b_S_learnHops 12 = .ok (.iload_n 1, 1) := by decide +kernel
theorem d_S_learnHops_13 : decode b_S_learnHops 13 = .ok (.iaload, 1) := by decide +kernel
theorem d_S_learnHops_14 : decode b_S_learnHops 14 = .ok (.if_icmp .le 8, 3) := by decide +kernel
theorem d_S_learnHops_17 : decode b_S_learnHops 17 = .ok (.aload_n 0, 1) := by decide +kernel
theorem d_S_learnHops_18 : decode b_S_learnHops 18 = .ok (.iload_n 1, 1) := by decide +kernel
theorem d_S_learnHops_19 : decode b_S_learnHops 19 = .ok (.invokevirtual 42, 3) := by decide +kernel
theorem d_S_learnHops_22 : decode b_S_learnHops 22 = .ok (.return_, 1) := by decide +kernel
theorem d_S_unlearn_0 : decode b_S_unlearn 0 = .ok (.aload_n 0, 1) := by decide +kernel
theorem d_S_unlearn_1 : decode b_S_unlearn 1 = .ok (.getfield 25, 3) := by decide +kernel
theorem d_S_unlearn_4 : decode b_S_unlearn 4 = .ok (.iload_n 1, 1) := by decide +kernel
theorem d_S_unlearn_5 : decode b_S_unlearn 5 = .ok (.dup2, 1) := by decide +kernel
theorem d_S_unlearn_6 : decode b_S_unlearn 6 = .ok (.iaload, 1) := by decide +kernel
theorem d_S_unlearn_7 : decode b_S_unlearn 7 = .ok (.iconst 1, 1) := by decide +kernel
theorem d_S_unlearn_8 : decode b_S_unlearn 8 = .ok (.isub, 1) := by decide +kernel
theorem d_S_unlearn_9 : decode b_S_unlearn 9 = .ok (.iastore, 1) := by decide +kernel
theorem d_S_unlearn_10 : decode b_S_unlearn 10 = .ok (.aload_n 0, 1) := by decide +kernel
theorem d_S_unlearn_11 : decode b_S_unlearn 11 = .ok (.getfield 15, 3) := by decide +kernel
theorem d_S_unlearn_14 : decode b_S_unlearn 14 = .ok (.iload_n 1, 1) := by decide +kernel
theorem d_S_unlearn_15 : decode b_S_unlearn 15 = .ok (.aload_n 0, 1) := by decide +kernel
theorem d_S_unlearn_16 : decode b_S_unlearn 16 = .ok (.getfield 25, 3) := by decide +kernel
theorem d_S_unlearn_19 : decode b_S_unlearn 19 = .ok (.iload_n 1, 1) := by decide +kernel
theorem d_S_unlearn_20 : decode b_S_unlearn 20 = .ok (.iaload, 1) := by decide +kernel
theorem d_S_unlearn_21 : decode b_S_unlearn 21 = .ok (.iastore, 1) := by decide +kernel
theorem d_S_unlearn_22 : decode b_S_unlearn 22 = .ok (.aload_n 0, 1) := by decide +kernel
theorem d_S_unlearn_23 : decode b_S_unlearn 23 = .ok (.dup, 1) := by decide +kernel
theorem d_S_unlearn_24 : decode b_S_unlearn 24 = .ok (.getfield 35, 3) := by decide +kernel
theorem d_S_unlearn_27 : decode b_S_unlearn 27 = .ok (.iconst 1, 1) := by decide +kernel
theorem d_S_unlearn_28 : decode b_S_unlearn 28 = .ok (.iadd, 1) := by decide +kernel
theorem d_S_unlearn_29 : decode b_S_unlearn 29 = .ok (.putfield 35, 3) := by decide +kernel
theorem d_S_unlearn_32 : decode b_S_unlearn 32 = .ok (.return_, 1) := by decide +kernel
theorem d_S_learnOf_0 : decode b_S_learnOf 0 = .ok (.aload_n 0, 1) := by decide +kernel
theorem d_S_learnOf_1 : decode b_S_learnOf 1 = .ok (.getfield 32, 3) := by decide +kernel
theorem d_S_learnOf_4 : decode b_S_learnOf 4 = .ok (.iload_n 1, 1) := by decide +kernel
theorem d_S_learnOf_5 : decode b_S_learnOf 5 = .ok (.iload_n 2, 1) := by decide +kernel
theorem d_S_learnOf_6 : decode b_S_learnOf 6 = .ok (.iastore, 1) := by decide +kernel
theorem d_S_learnOf_7 : decode b_S_learnOf 7 = .ok (.iload_n 2, 1) := by decide +kernel
theorem d_S_learnOf_8 : decode b_S_learnOf 8 = .ok (.ifCond .eq 8, 3) := by decide +kernel
theorem d_S_learnOf_11 : decode b_S_learnOf 11 = .ok (.aload_n 0, 1) := by decide +kernel
theorem d_S_learnOf_12 : decode b_S_learnOf 12 = .ok (.iload_n 1, 1) := by decide +kernel
theorem d_S_learnOf_13 : decode b_S_learnOf 13 = .ok (.invokevirtual 46, 3) := by decide +kernel
theorem d_S_learnOf_16 : decode b_S_learnOf 16 = .ok (.return_, 1) := by decide +kernel
theorem d_S_forgetPieces_0 : decode b_S_forgetPieces 0 = .ok (.iconst 0, 1) := by decide +kernel
theorem d_S_forgetPieces_1 : decode b_S_forgetPieces 1 = .ok (.istore_n 1, 1) := by decide +kernel
theorem d_S_forgetPieces_2 : decode b_S_forgetPieces 2 = .ok (.iload_n 1, 1) := by decide +kernel
theorem d_S_forgetPieces_3 : decode b_S_forgetPieces 3 = .ok (.bipush 64, 2) := by decide +kernel
theorem d_S_forgetPieces_5 : decode b_S_forgetPieces 5 = .ok (.if_icmp .ge 24, 3) := by decide +kernel
theorem d_S_forgetPieces_8 : decode b_S_forgetPieces 8 = .ok (.aload_n 0, 1) := by decide +kernel
theorem d_S_forgetPieces_9 : decode b_S_forgetPieces 9 = .ok (.iload_n 1, 1) := by decide +kernel
theorem d_S_forgetPieces_10 : decode b_S_forgetPieces 10 = .ok (.invokevirtual 38, 3) := by decide +kernel
theorem d_S_forgetPieces_13 : decode b_S_forgetPieces 13 = .ok (.ifCond .ne 10, 3) := by decide +kernel
theorem d_S_forgetPieces_16 : decode b_S_forgetPieces 16 = .ok (.aload_n 0, 1) := by decide +kernel
theorem d_S_forgetPieces_17 : decode b_S_forgetPieces 17 = .ok (.getfield 25, 3) := by decide +kernel
theorem d_S_forgetPieces_20 : decode b_S_forgetPieces 20 = .ok (.iload_n 1, 1) := by decide +kernel
theorem d_S_forgetPieces_21 : decode b_S_forgetPieces 21 = .ok (.iconst 0, 1) := by decide +kernel
theorem d_S_forgetPieces_22 : decode b_S_forgetPieces 22 = .ok (.iastore, 1) := by decide +kernel
theorem d_S_forgetPieces_23 : decode b_S_forgetPieces 23 = .ok (.iinc 1 1, 3) := by decide +kernel
theorem d_S_forgetPieces_26 : decode b_S_forgetPieces 26 = .ok (.goto (-24), 3) := by decide +kernel
theorem d_S_forgetPieces_29 : decode b_S_forgetPieces 29 = .ok (.return_, 1) := by decide +kernel

theorem d_T_find_0 : decode b_T_find 0 = .ok (.iconst 0, 1) := by decide +kernel
theorem d_T_find_1 : decode b_T_find 1 = .ok (.istore_n 3, 1) := by decide +kernel
theorem d_T_find_2 : decode b_T_find 2 = .ok (.iload_n 3, 1) := by decide +kernel
theorem d_T_find_3 : decode b_T_find 3 = .ok (.aload_n 0, 1) := by decide +kernel
theorem d_T_find_4 : decode b_T_find 4 = .ok (.getfield 21, 3) := by decide +kernel
theorem d_T_find_7 : decode b_T_find 7 = .ok (.if_icmp .ge 31, 3) := by decide +kernel
theorem d_T_find_10 : decode b_T_find 10 = .ok (.aload_n 0, 1) := by decide +kernel
theorem d_T_find_11 : decode b_T_find 11 = .ok (.getfield 9, 3) := by decide +kernel
theorem d_T_find_14 : decode b_T_find 14 = .ok (.iload_n 3, 1) := by decide +kernel
theorem d_T_find_15 : decode b_T_find 15 = .ok (.iaload, 1) := by decide +kernel
theorem d_T_find_16 : decode b_T_find 16 = .ok (.iload_n 1, 1) := by decide +kernel
theorem d_T_find_17 : decode b_T_find 17 = .ok (.if_icmp .ne 15, 3) := by decide +kernel
theorem d_T_find_20 : decode b_T_find 20 = .ok (.aload_n 0, 1) := by decide +kernel
theorem d_T_find_21 : decode b_T_find 21 = .ok (.getfield 18, 3) := by decide +kernel
theorem d_T_find_24 : decode b_T_find 24 = .ok (.iload_n 3, 1) := by decide +kernel
theorem d_T_find_25 : decode b_T_find 25 = .ok (.iaload, 1) := by decide +kernel
theorem d_T_find_26 : decode b_T_find 26 = .ok (.iload_n 2, 1) := by decide +kernel
theorem d_T_find_27 : decode b_T_find 27 = .ok (.if_icmp .ne 5, 3) := by decide +kernel
theorem d_T_find_30 : decode b_T_find 30 = .ok (.iload_n 3, 1) := by decide +kernel
theorem d_T_find_31 : decode b_T_find 31 = .ok (.ireturn, 1) := by decide +kernel
theorem d_T_find_32 : decode b_T_find 32 = .ok (.iinc 3 1, 3) := by decide +kernel
theorem d_T_find_35 : decode b_T_find 35 = .ok (.goto (-33), 3) := by decide +kernel
theorem d_T_find_38 : decode b_T_find 38 = .ok (.iconst (-1), 1) := by decide +kernel
theorem d_T_find_39 : decode b_T_find 39 = .ok (.ireturn, 1) := by decide +kernel
theorem d_T_set_0 : decode b_T_set 0 = .ok (.aload_n 0, 1) := by decide +kernel
theorem d_T_set_1 : decode b_T_set 1 = .ok (.getfield 9, 3) := by decide +kernel
theorem d_T_set_4 : decode b_T_set 4 = .ok (.iload_n 1, 1) := by decide +kernel
theorem d_T_set_5 : decode b_T_set 5 = .ok (.iload_n 2, 1) := by decide +kernel
theorem d_T_set_6 : decode b_T_set 6 = .ok (.iastore, 1) := by decide +kernel
theorem d_T_set_7 : decode b_T_set 7 = .ok (.aload_n 0, 1) := by decide +kernel
theorem d_T_set_8 : decode b_T_set 8 = .ok (.getfield 15, 3) := by decide +kernel
theorem d_T_set_11 : decode b_T_set 11 = .ok (.iload_n 1, 1) := by decide +kernel
theorem d_T_set_12 : decode b_T_set 12 = .ok (.iload_n 3, 1) := by decide +kernel
theorem d_T_set_13 : decode b_T_set 13 = .ok (.iastore, 1) := by decide +kernel
theorem d_T_set_14 : decode b_T_set 14 = .ok (.aload_n 0, 1) := by decide +kernel
theorem d_T_set_15 : decode b_T_set 15 = .ok (.getfield 18, 3) := by decide +kernel
theorem d_T_set_18 : decode b_T_set 18 = .ok (.iload_n 1, 1) := by decide +kernel
theorem d_T_set_19 : decode b_T_set 19 = .ok (.iload 4, 2) := by decide +kernel
theorem d_T_set_21 : decode b_T_set 21 = .ok (.iastore, 1) := by decide +kernel
theorem d_T_set_22 : decode b_T_set 22 = .ok (.return_, 1) := by decide +kernel
theorem d_T_insert_0 : decode b_T_insert 0 = .ok (.aload_n 0, 1) := by decide +kernel
theorem d_T_insert_1 : decode b_T_insert 1 = .ok (.getfield 21, 3) := by decide +kernel
theorem d_T_insert_4 : decode b_T_insert 4 = .ok (.istore 4, 2) := by decide +kernel
theorem d_T_insert_6 : decode b_T_insert 6 = .ok (.iload 4, 2) := by decide +kernel
theorem d_T_insert_8 : decode b_T_insert 8 = .ok (.ifCond .le 55, 3) := by decide +kernel
theorem d_T_insert_11 : decode b_T_insert 11 = .ok (.aload_n 0, 1) := by decide +kernel
theorem d_T_insert_12 : decode b_T_insert 12 = .ok (.getfield 18, 3) := by decide +kernel
theorem d_T_insert_15 : decode b_T_insert 15 = .ok (.iload 4, 2) := by decide +kernel
theorem d_T_insert_17 : decode b_T_insert 17 = .ok (.iconst 1, 1) := by decide +kernel
theorem d_T_insert_18 : decode b_T_insert 18 = .ok (.isub, 1) := by decide +kernel
theorem d_T_insert_19 : decode b_T_insert 19 = .ok (.iaload, 1) := by decide +kernel
theorem d_T_insert_20 : decode b_T_insert 20 = .ok (.iload_n 3, 1) := by decide +kernel
theorem d_T_insert_21 : decode b_T_insert 21 = .ok (.if_icmp .le 42, 3) := by decide +kernel
theorem d_T_insert_24 : decode b_T_insert 24 = .ok (.aload_n 0, 1) := by decide +kernel
theorem d_T_insert_25 : decode b_T_insert 25 = .ok (.iload 4, 2) := by decide +kernel
theorem d_T_insert_27 : decode b_T_insert 27 = .ok (.aload_n 0, 1) := by decide +kernel
theorem d_T_insert_28 : decode b_T_insert 28 = .ok (.getfield 9, 3) := by decide +kernel
theorem d_T_insert_31 : decode b_T_insert 31 = .ok (.iload 4, 2) := by decide +kernel
theorem d_T_insert_33 : decode b_T_insert 33 = .ok (.iconst 1, 1) := by decide +kernel
theorem d_T_insert_34 : decode b_T_insert 34 = .ok (.isub, 1) := by decide +kernel
theorem d_T_insert_35 : decode b_T_insert 35 = .ok (.iaload, 1) := by decide +kernel
theorem d_T_insert_36 : decode b_T_insert 36 = .ok (.aload_n 0, 1) := by decide +kernel
theorem d_T_insert_37 : decode b_T_insert 37 = .ok (.getfield 15, 3) := by decide +kernel
theorem d_T_insert_40 : decode b_T_insert 40 = .ok (.iload 4, 2) := by decide +kernel
theorem d_T_insert_42 : decode b_T_insert 42 = .ok (.iconst 1, 1) := by decide +kernel
theorem d_T_insert_43 : decode b_T_insert 43 = .ok (.isub, 1) := by decide +kernel
theorem d_T_insert_44 : decode b_T_insert 44 = .ok (.iaload, 1) := by decide +kernel
theorem d_T_insert_45 : decode b_T_insert 45 = .ok (.aload_n 0, 1) := by decide +kernel
theorem d_T_insert_46 : decode b_T_insert 46 = .ok (.getfield 18, 3) := by decide +kernel
theorem d_T_insert_49 : decode b_T_insert 49 = .ok (.iload 4, 2) := by decide +kernel
theorem d_T_insert_51 : decode b_T_insert 51 = .ok (.iconst 1, 1) := by decide +kernel
theorem d_T_insert_52 : decode b_T_insert 52 = .ok (.isub, 1) := by decide +kernel
theorem d_T_insert_53 : decode b_T_insert 53 = .ok (.iaload, 1) := by decide +kernel
theorem d_T_insert_54 : decode b_T_insert 54 = .ok (.invokevirtual 25, 3) := by decide +kernel
theorem d_T_insert_57 : decode b_T_insert 57 = .ok (.iinc 4 (-1), 3) := by decide +kernel
theorem d_T_insert_60 : decode b_T_insert 60 = .ok (.goto (-54), 3) := by decide +kernel
theorem d_T_insert_63 : decode b_T_insert 63 = .ok (.aload_n 0, 1) := by decide +kernel
theorem d_T_insert_64 : decode b_T_insert 64 = .ok (.iload 4, 2) := by decide +kernel
theorem d_T_insert_66 : decode b_T_insert 66 = .ok (.iload_n 1, 1) := by decide +kernel
theorem d_T_insert_67 : decode b_T_insert 67 = .ok (.iload_n 2, 1) := by decide +kernel
theorem d_T_insert_68 : decode b_T_insert 68 = .ok (.iload_n 3, 1) := by decide +kernel
theorem d_T_insert_69 : decode b_T_insert 69 = .ok (.invokevirtual 25, 3) := by decide +kernel
theorem d_T_insert_72 : decode b_T_insert 72 = .ok (.aload_n 0, 1) := by decide +kernel
theorem d_T_insert_73 : decode b_T_insert 73 = .ok (.dup, 1) := by decide +kernel
theorem d_T_insert_74 : decode b_T_insert 74 = .ok (.getfield 21, 3) := by decide +kernel
theorem d_T_insert_77 : decode b_T_insert 77 = .ok (.iconst 1, 1) := by decide +kernel
theorem d_T_insert_78 : decode b_T_insert 78 = .ok (.iadd, 1) := by decide +kernel
theorem d_T_insert_79 : decode b_T_insert 79 = .ok (.putfield 21, 3) := by decide +kernel
theorem d_T_insert_82 : decode b_T_insert 82 = .ok (.return_, 1) := by decide +kernel
theorem d_T_takeOut_0 : decode b_T_takeOut 0 = .ok (.aload_n 0, 1) := by decide +kernel
theorem d_T_takeOut_1 : decode b_T_takeOut 1 = .ok (.dup, 1) := by decide +kernel
theorem d_T_takeOut_2 : decode b_T_takeOut 2 = .ok (.getfield 21, 3) := by decide +kernel
theorem d_T_takeOut_5 : decode b_T_takeOut 5 = .ok (.iconst 1, 1) := by decide +kernel
theorem d_T_takeOut_6 : decode b_T_takeOut 6 = .ok (.isub, 1) := by decide +kernel
theorem d_T_takeOut_7 : decode b_T_takeOut 7 = .ok (.putfield 21, 3) := by decide +kernel
theorem d_T_takeOut_10 : decode b_T_takeOut 10 = .ok (.iload_n 1, 1) := by decide +kernel
theorem d_T_takeOut_11 : decode b_T_takeOut 11 = .ok (.istore_n 2, 1) := by decide +kernel
theorem d_T_takeOut_12 : decode b_T_takeOut 12 = .ok (.iload_n 2, 1) := by decide +kernel
theorem d_T_takeOut_13 : decode b_T_takeOut 13 = .ok (.aload_n 0, 1) := by decide +kernel
theorem d_T_takeOut_14 : decode b_T_takeOut 14 = .ok (.getfield 21, 3) := by decide +kernel
theorem d_T_takeOut_17 : decode b_T_takeOut 17 = .ok (.if_icmp .ge 38, 3) := by decide +kernel
theorem d_T_takeOut_20 : decode b_T_takeOut 20 = .ok (.aload_n 0, 1) := by decide +kernel
theorem d_T_takeOut_21 : decode b_T_takeOut 21 = .ok (.iload_n 2, 1) := by decide +kernel
theorem d_T_takeOut_22 : decode b_T_takeOut 22 = .ok (.aload_n 0, 1) := by decide +kernel
theorem d_T_takeOut_23 : decode b_T_takeOut 23 = .ok (.getfield 9, 3) := by decide +kernel
theorem d_T_takeOut_26 : decode b_T_takeOut 26 = .ok (.iload_n 2, 1) := by decide +kernel
theorem d_T_takeOut_27 : decode b_T_takeOut 27 = .ok (.iconst 1, 1) := by decide +kernel
theorem d_T_takeOut_28 : decode b_T_takeOut 28 = .ok (.iadd, 1) := by decide +kernel
theorem d_T_takeOut_29 : decode b_T_takeOut 29 = .ok (.iaload, 1) := by decide +kernel
theorem d_T_takeOut_30 : decode b_T_takeOut 30 = .ok (.aload_n 0, 1) := by decide +kernel
theorem d_T_takeOut_31 : decode b_T_takeOut 31 = .ok (.getfield 15, 3) := by decide +kernel
theorem d_T_takeOut_34 : decode b_T_takeOut 34 = .ok (.iload_n 2, 1) := by decide +kernel
theorem d_T_takeOut_35 : decode b_T_takeOut 35 = .ok (.iconst 1, 1) := by decide +kernel
theorem d_T_takeOut_36 : decode b_T_takeOut 36 = .ok (.iadd, 1) := by decide +kernel
theorem d_T_takeOut_37 : decode b_T_takeOut 37 = .ok (.iaload, 1) := by decide +kernel
theorem d_T_takeOut_38 : decode b_T_takeOut 38 = .ok (.aload_n 0, 1) := by decide +kernel
theorem d_T_takeOut_39 : decode b_T_takeOut 39 = .ok (.getfield 18, 3) := by decide +kernel
theorem d_T_takeOut_42 : decode b_T_takeOut 42 = .ok (.iload_n 2, 1) := by decide +kernel
theorem d_T_takeOut_43 : decode b_T_takeOut 43 = .ok (.iconst 1, 1) := by decide +kernel
theorem d_T_takeOut_44 : decode b_T_takeOut 44 = .ok (.iadd, 1) := by decide +kernel
theorem d_T_takeOut_45 : decode b_T_takeOut 45 = .ok (.iaload, 1) := by decide +kernel
theorem d_T_takeOut_46 : decode b_T_takeOut 46 = .ok (.invokevirtual 25, 3) := by decide +kernel
theorem d_T_takeOut_49 : decode b_T_takeOut 49 = .ok (.iinc 2 1, 3) := by decide +kernel
theorem d_T_takeOut_52 : decode b_T_takeOut 52 = .ok (.goto (-40), 3) := by decide +kernel
theorem d_T_takeOut_55 : decode b_T_takeOut 55 = .ok (.return_, 1) := by decide +kernel
theorem d_T_become_0 : decode b_T_become 0 = .ok (.aload_n 0, 1) := by decide +kernel
theorem d_T_become_1 : decode b_T_become 1 = .ok (.aload_n 1, 1) := by decide +kernel
theorem d_T_become_2 : decode b_T_become 2 = .ok (.getfield 21, 3) := by decide +kernel
theorem d_T_become_5 : decode b_T_become 5 = .ok (.putfield 21, 3) := by decide +kernel
theorem d_T_become_8 : decode b_T_become 8 = .ok (.iconst 0, 1) := by decide +kernel
theorem d_T_become_9 : decode b_T_become 9 = .ok (.istore_n 2, 1) := by decide +kernel
theorem d_T_become_10 : decode b_T_become 10 = .ok (.iload_n 2, 1) := by decide +kernel
theorem d_T_become_11 : decode b_T_become 11 = .ok (.aload_n 0, 1) := by decide +kernel
theorem d_T_become_12 : decode b_T_become 12 = .ok (.getfield 21, 3) := by decide +kernel
theorem d_T_become_15 : decode b_T_become 15 = .ok (.if_icmp .ge 32, 3) := by decide +kernel
theorem d_T_become_18 : decode b_T_become 18 = .ok (.aload_n 0, 1) := by decide +kernel
theorem d_T_become_19 : decode b_T_become 19 = .ok (.iload_n 2, 1) := by decide +kernel
theorem d_T_become_20 : decode b_T_become 20 = .ok (.aload_n 1, 1) := by decide +kernel
theorem d_T_become_21 : decode b_T_become 21 = .ok (.getfield 9, 3) := by decide +kernel
theorem d_T_become_24 : decode b_T_become 24 = .ok (.iload_n 2, 1) := by decide +kernel
theorem d_T_become_25 : decode b_T_become 25 = .ok (.iaload, 1) := by decide +kernel
theorem d_T_become_26 : decode b_T_become 26 = .ok (.aload_n 1, 1) := by decide +kernel
theorem d_T_become_27 : decode b_T_become 27 = .ok (.getfield 15, 3) := by decide +kernel
theorem d_T_become_30 : decode b_T_become 30 = .ok (.iload_n 2, 1) := by decide +kernel
theorem d_T_become_31 : decode b_T_become 31 = .ok (.iaload, 1) := by decide +kernel
theorem d_T_become_32 : decode b_T_become 32 = .ok (.aload_n 1, 1) := by decide +kernel
theorem d_T_become_33 : decode b_T_become 33 = .ok (.getfield 18, 3) := by decide +kernel
theorem d_T_become_36 : decode b_T_become 36 = .ok (.iload_n 2, 1) := by decide +kernel
theorem d_T_become_37 : decode b_T_become 37 = .ok (.iaload, 1) := by decide +kernel
theorem d_T_become_38 : decode b_T_become 38 = .ok (.invokevirtual 25, 3) := by decide +kernel
theorem d_T_become_41 : decode b_T_become 41 = .ok (.iinc 2 1, 3) := by decide +kernel
theorem d_T_become_44 : decode b_T_become 44 = .ok (.goto (-34), 3) := by decide +kernel
theorem d_T_become_47 : decode b_T_become 47 = .ok (.return_, 1) := by decide +kernel

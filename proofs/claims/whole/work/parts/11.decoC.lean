theorem d_C_toggle_0 : decode b_C_toggle 0 = .ok (.aload_n 0, 1) := by decide +kernel
theorem d_C_toggle_1 : decode b_C_toggle 1 = .ok (.getfield 18, 3) := by decide +kernel
theorem d_C_toggle_4 : decode b_C_toggle 4 = .ok (.iload_n 1, 1) := by decide +kernel
theorem d_C_toggle_5 : decode b_C_toggle 5 = .ok (.dup2, 1) := by decide +kernel
theorem d_C_toggle_6 : decode b_C_toggle 6 = .ok (.iaload, 1) := by decide +kernel
theorem d_C_toggle_7 : decode b_C_toggle 7 = .ok (.iconst 1, 1) := by decide +kernel
theorem d_C_toggle_8 : decode b_C_toggle 8 = .ok (.iload_n 2, 1) := by decide +kernel
theorem d_C_toggle_9 : decode b_C_toggle 9 = .ok (.ishl, 1) := by decide +kernel
theorem d_C_toggle_10 : decode b_C_toggle 10 = .ok (.ixor, 1) := by decide +kernel
theorem d_C_toggle_11 : decode b_C_toggle 11 = .ok (.iastore, 1) := by decide +kernel
theorem d_C_toggle_12 : decode b_C_toggle 12 = .ok (.aload_n 0, 1) := by decide +kernel
theorem d_C_toggle_13 : decode b_C_toggle 13 = .ok (.getfield 18, 3) := by decide +kernel
theorem d_C_toggle_16 : decode b_C_toggle 16 = .ok (.iload_n 1, 1) := by decide +kernel
theorem d_C_toggle_17 : decode b_C_toggle 17 = .ok (.iaload, 1) := by decide +kernel
theorem d_C_toggle_18 : decode b_C_toggle 18 = .ok (.iload_n 2, 1) := by decide +kernel
theorem d_C_toggle_19 : decode b_C_toggle 19 = .ok (.ishr, 1) := by decide +kernel
theorem d_C_toggle_20 : decode b_C_toggle 20 = .ok (.iconst 1, 1) := by decide +kernel
theorem d_C_toggle_21 : decode b_C_toggle 21 = .ok (.iand, 1) := by decide +kernel
theorem d_C_toggle_22 : decode b_C_toggle 22 = .ok (.iconst 1, 1) := by decide +kernel
theorem d_C_toggle_23 : decode b_C_toggle 23 = .ok (.if_icmp .ne 7, 3) := by decide +kernel
theorem d_C_toggle_26 : decode b_C_toggle 26 = .ok (.iconst 1, 1) := by decide +kernel
theorem d_C_toggle_27 : decode b_C_toggle 27 = .ok (.goto 4, 3) := by decide +kernel
theorem d_C_toggle_30 : decode b_C_toggle 30 = .ok (.iconst 0, 1) := by decide +kernel
theorem d_C_toggle_31 : decode b_C_toggle 31 = .ok (.ireturn, 1) := by decide +kernel
theorem d_C_addressedBy_0 : decode b_C_addressedBy 0 = .ok (.iload_n 1, 1) := by decide +kernel
theorem d_C_addressedBy_1 : decode b_C_addressedBy 1 = .ok (.iconst 3, 1) := by decide +kernel
theorem d_C_addressedBy_2 : decode b_C_addressedBy 2 = .ok (.if_icmp .ge 9, 3) := by decide +kernel
theorem d_C_addressedBy_5 : decode b_C_addressedBy 5 = .ok (.iconst 1, 1) := by decide +kernel
theorem d_C_addressedBy_6 : decode b_C_addressedBy 6 = .ok (.iload_n 1, 1) := by decide +kernel
theorem d_C_addressedBy_7 : decode b_C_addressedBy 7 = .ok (.ishl, 1) := by decide +kernel
theorem d_C_addressedBy_8 : decode b_C_addressedBy 8 = .ok (.goto 11, 3) := by decide +kernel
theorem d_C_addressedBy_11 : decode b_C_addressedBy 11 = .ok (.aload_n 0, 1) := by decide +kernel
theorem d_C_addressedBy_12 : decode b_C_addressedBy 12 = .ok (.getfield 18, 3) := by decide +kernel
theorem d_C_addressedBy_15 : decode b_C_addressedBy 15 = .ok (.iload_n 1, 1) := by decide +kernel
theorem d_C_addressedBy_16 : decode b_C_addressedBy 16 = .ok (.iconst 3, 1) := by decide +kernel
theorem d_C_addressedBy_17 : decode b_C_addressedBy 17 = .ok (.isub, 1) := by decide +kernel
theorem d_C_addressedBy_18 : decode b_C_addressedBy 18 = .ok (.iaload, 1) := by decide +kernel
theorem d_C_addressedBy_19 : decode b_C_addressedBy 19 = .ok (.ireturn, 1) := by decide +kernel
theorem d_C_allFit_0 : decode b_C_allFit 0 = .ok (.iconst 0, 1) := by decide +kernel
theorem d_C_allFit_1 : decode b_C_allFit 1 = .ok (.istore_n 3, 1) := by decide +kernel
theorem d_C_allFit_2 : decode b_C_allFit 2 = .ok (.iload_n 3, 1) := by decide +kernel
theorem d_C_allFit_3 : decode b_C_allFit 3 = .ok (.iconst 3, 1) := by decide +kernel
theorem d_C_allFit_4 : decode b_C_allFit 4 = .ok (.if_icmp .ge 33, 3) := by decide +kernel
theorem d_C_allFit_7 : decode b_C_allFit 7 = .ok (.iload_n 1, 1) := by decide +kernel
theorem d_C_allFit_8 : decode b_C_allFit 8 = .ok (.iload_n 3, 1) := by decide +kernel
theorem d_C_allFit_9 : decode b_C_allFit 9 = .ok (.ishr, 1) := by decide +kernel
theorem d_C_allFit_10 : decode b_C_allFit 10 = .ok (.iconst 1, 1) := by decide +kernel
theorem d_C_allFit_11 : decode b_C_allFit 11 = .ok (.iand, 1) := by decide +kernel
theorem d_C_allFit_12 : decode b_C_allFit 12 = .ok (.iconst 1, 1) := by decide +kernel
theorem d_C_allFit_13 : decode b_C_allFit 13 = .ok (.if_icmp .ne 18, 3) := by decide +kernel
theorem d_C_allFit_16 : decode b_C_allFit 16 = .ok (.aload_n 0, 1) := by decide +kernel
theorem d_C_allFit_17 : decode b_C_allFit 17 = .ok (.getfield 11, 3) := by decide +kernel
theorem d_C_allFit_20 : decode b_C_allFit 20 = .ok (.iload_n 3, 1) := by decide +kernel
theorem d_C_allFit_21 : decode b_C_allFit 21 = .ok (.aaload, 1) := by decide +kernel
theorem d_C_allFit_22 : decode b_C_allFit 22 = .ok (.iload_n 2, 1) := by decide +kernel
theorem d_C_allFit_23 : decode b_C_allFit 23 = .ok (.invokevirtual 34, 3) := by decide +kernel
theorem d_C_allFit_26 : decode b_C_allFit 26 = .ok (.ifCond .ne 5, 3) := by decide +kernel
theorem d_C_allFit_29 : decode b_C_allFit 29 = .ok (.iconst 0, 1) := by decide +kernel
theorem d_C_allFit_30 : decode b_C_allFit 30 = .ok (.ireturn, 1) := by decide +kernel
theorem d_C_allFit_31 : decode b_C_allFit 31 = .ok (.iinc 3 1, 3) := by decide +kernel
theorem d_C_allFit_34 : decode b_C_allFit 34 = .ok (.goto (-32), 3) := by decide +kernel
theorem d_C_allFit_37 : decode b_C_allFit 37 = .ok (.iconst 1, 1) := by decide +kernel
theorem d_C_allFit_38 : decode b_C_allFit 38 = .ok (.ireturn, 1) := by decide +kernel
theorem d_C_putInto_0 : decode b_C_putInto 0 = .ok (.aload_n 0, 1) := by decide +kernel
theorem d_C_putInto_1 : decode b_C_putInto 1 = .ok (.iload_n 1, 1) := by decide +kernel
theorem d_C_putInto_2 : decode b_C_putInto 2 = .ok (.invokevirtual 22, 3) := by decide +kernel
theorem d_C_putInto_5 : decode b_C_putInto 5 = .ok (.istore 4, 2) := by decide +kernel
theorem d_C_putInto_7 : decode b_C_putInto 7 = .ok (.iload 4, 2) := by decide +kernel
theorem d_C_putInto_9 : decode b_C_putInto 9 = .ok (.ifCond .eq 13, 3) := by decide +kernel
theorem d_C_putInto_12 : decode b_C_putInto 12 = .ok (.aload_n 0, 1) := by decide +kernel
theorem d_C_putInto_13 : decode b_C_putInto 13 = .ok (.iload 4, 2) := by decide +kernel
theorem d_C_putInto_15 : decode b_C_putInto 15 = .ok (.iload_n 3, 1) := by decide +kernel
theorem d_C_putInto_16 : decode b_C_putInto 16 = .ok (.invokevirtual 26, 3) := by decide +kernel
theorem d_C_putInto_19 : decode b_C_putInto 19 = .ok (.ifCond .ne 5, 3) := by decide +kernel
theorem d_C_putInto_22 : decode b_C_putInto 22 = .ok (.iconst 0, 1) := by decide +kernel
theorem d_C_putInto_23 : decode b_C_putInto 23 = .ok (.ireturn, 1) := by decide +kernel
theorem d_C_putInto_24 : decode b_C_putInto 24 = .ok (.iconst 0, 1) := by decide +kernel
theorem d_C_putInto_25 : decode b_C_putInto 25 = .ok (.istore 5, 2) := by decide +kernel
theorem d_C_putInto_27 : decode b_C_putInto 27 = .ok (.iload 5, 2) := by decide +kernel
theorem d_C_putInto_29 : decode b_C_putInto 29 = .ok (.iconst 3, 1) := by decide +kernel
theorem d_C_putInto_30 : decode b_C_putInto 30 = .ok (.if_icmp .ge 32, 3) := by decide +kernel
theorem d_C_putInto_33 : decode b_C_putInto 33 = .ok (.iload 4, 2) := by decide +kernel
theorem d_C_putInto_35 : decode b_C_putInto 35 = .ok (.iload 5, 2) := by decide +kernel
theorem d_C_putInto_37 : decode b_C_putInto 37 = .ok (.ishr, 1) := by decide +kernel
theorem d_C_putInto_38 : decode b_C_putInto 38 = .ok (.iconst 1, 1) := by decide +kernel
theorem d_C_putInto_39 : decode b_C_putInto 39 = .ok (.iand, 1) := by decide +kernel
theorem d_C_putInto_40 : decode b_C_putInto 40 = .ok (.iconst 1, 1) := by decide +kernel
theorem d_C_putInto_41 : decode b_C_putInto 41 = .ok (.if_icmp .ne 15, 3) := by decide +kernel
theorem d_C_putInto_44 : decode b_C_putInto 44 = .ok (.aload_n 0, 1) := by decide +kernel
theorem d_C_putInto_45 : decode b_C_putInto 45 = .ok (.getfield 11, 3) := by decide +kernel
theorem d_C_putInto_48 : decode b_C_putInto 48 = .ok (.iload 5, 2) := by decide +kernel
theorem d_C_putInto_50 : decode b_C_putInto 50 = .ok (.aaload, 1) := by decide +kernel
theorem d_C_putInto_51 : decode b_C_putInto 51 = .ok (.iload_n 2, 1) := by decide +kernel
theorem d_C_putInto_52 : decode b_C_putInto 52 = .ok (.iload_n 3, 1) := by decide +kernel
theorem d_C_putInto_53 : decode b_C_putInto 53 = .ok (.invokevirtual 30, 3) := by decide +kernel
theorem d_C_putInto_56 : decode b_C_putInto 56 = .ok (.iinc 5 1, 3) := by decide +kernel
theorem d_C_putInto_59 : decode b_C_putInto 59 = .ok (.goto (-32), 3) := by decide +kernel
theorem d_C_putInto_62 : decode b_C_putInto 62 = .ok (.iconst 1, 1) := by decide +kernel
theorem d_C_putInto_63 : decode b_C_putInto 63 = .ok (.ireturn, 1) := by decide +kernel

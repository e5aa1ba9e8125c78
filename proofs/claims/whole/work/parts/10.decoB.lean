theorem d_B_fits_0 : decode b_B_fits 0 = .ok (.aload_n 0, 1) := by decide +kernel
theorem d_B_fits_1 : decode b_B_fits 1 = .ok (.getfield 19, 3) := by decide +kernel
theorem d_B_fits_4 : decode b_B_fits 4 = .ok (.iload_n 1, 1) := by decide +kernel
theorem d_B_fits_5 : decode b_B_fits 5 = .ok (.iadd, 1) := by decide +kernel
theorem d_B_fits_6 : decode b_B_fits 6 = .ok (.aload_n 0, 1) := by decide +kernel
theorem d_B_fits_7 : decode b_B_fits 7 = .ok (.getfield 15, 3) := by decide +kernel
theorem d_B_fits_10 : decode b_B_fits 10 = .ok (.if_icmp .gt 7, 3) := by decide +kernel
theorem d_B_fits_13 : decode b_B_fits 13 = .ok (.iconst 1, 1) := by decide +kernel
theorem d_B_fits_14 : decode b_B_fits 14 = .ok (.goto 4, 3) := by decide +kernel
theorem d_B_fits_17 : decode b_B_fits 17 = .ok (.iconst 0, 1) := by decide +kernel
theorem d_B_fits_18 : decode b_B_fits 18 = .ok (.ireturn, 1) := by decide +kernel
theorem d_B_put_0 : decode b_B_put 0 = .ok (.aload_n 0, 1) := by decide +kernel
theorem d_B_put_1 : decode b_B_put 1 = .ok (.getfield 9, 3) := by decide +kernel
theorem d_B_put_4 : decode b_B_put 4 = .ok (.aload_n 0, 1) := by decide +kernel
theorem d_B_put_5 : decode b_B_put 5 = .ok (.getfield 22, 3) := by decide +kernel
theorem d_B_put_8 : decode b_B_put 8 = .ok (.iload_n 1, 1) := by decide +kernel
theorem d_B_put_9 : decode b_B_put 9 = .ok (.iastore, 1) := by decide +kernel
theorem d_B_put_10 : decode b_B_put 10 = .ok (.aload_n 0, 1) := by decide +kernel
theorem d_B_put_11 : decode b_B_put 11 = .ok (.dup, 1) := by decide +kernel
theorem d_B_put_12 : decode b_B_put 12 = .ok (.getfield 22, 3) := by decide +kernel
theorem d_B_put_15 : decode b_B_put 15 = .ok (.iconst 1, 1) := by decide +kernel
theorem d_B_put_16 : decode b_B_put 16 = .ok (.iadd, 1) := by decide +kernel
theorem d_B_put_17 : decode b_B_put 17 = .ok (.putfield 22, 3) := by decide +kernel
theorem d_B_put_20 : decode b_B_put 20 = .ok (.aload_n 0, 1) := by decide +kernel
theorem d_B_put_21 : decode b_B_put 21 = .ok (.dup, 1) := by decide +kernel
theorem d_B_put_22 : decode b_B_put 22 = .ok (.getfield 19, 3) := by decide +kernel
theorem d_B_put_25 : decode b_B_put 25 = .ok (.iload_n 2, 1) := by decide +kernel
theorem d_B_put_26 : decode b_B_put 26 = .ok (.iadd, 1) := by decide +kernel
theorem d_B_put_27 : decode b_B_put 27 = .ok (.putfield 19, 3) := by decide +kernel
theorem d_B_put_30 : decode b_B_put 30 = .ok (.return_, 1) := by decide +kernel
theorem d_B_takeOut_0 : decode b_B_takeOut 0 = .ok (.aload_n 0, 1) := by decide +kernel
theorem d_B_takeOut_1 : decode b_B_takeOut 1 = .ok (.dup, 1) := by decide +kernel
theorem d_B_takeOut_2 : decode b_B_takeOut 2 = .ok (.getfield 22, 3) := by decide +kernel
theorem d_B_takeOut_5 : decode b_B_takeOut 5 = .ok (.iconst 1, 1) := by decide +kernel
theorem d_B_takeOut_6 : decode b_B_takeOut 6 = .ok (.isub, 1) := by decide +kernel
theorem d_B_takeOut_7 : decode b_B_takeOut 7 = .ok (.putfield 22, 3) := by decide +kernel
theorem d_B_takeOut_10 : decode b_B_takeOut 10 = .ok (.aload_n 0, 1) := by decide +kernel
theorem d_B_takeOut_11 : decode b_B_takeOut 11 = .ok (.dup, 1) := by decide +kernel
theorem d_B_takeOut_12 : decode b_B_takeOut 12 = .ok (.getfield 19, 3) := by decide +kernel
theorem d_B_takeOut_15 : decode b_B_takeOut 15 = .ok (.iload_n 2, 1) := by decide +kernel
theorem d_B_takeOut_16 : decode b_B_takeOut 16 = .ok (.isub, 1) := by decide +kernel
theorem d_B_takeOut_17 : decode b_B_takeOut 17 = .ok (.putfield 19, 3) := by decide +kernel
theorem d_B_takeOut_20 : decode b_B_takeOut 20 = .ok (.iload_n 1, 1) := by decide +kernel
theorem d_B_takeOut_21 : decode b_B_takeOut 21 = .ok (.istore_n 3, 1) := by decide +kernel
theorem d_B_takeOut_22 : decode b_B_takeOut 22 = .ok (.iload_n 3, 1) := by decide +kernel
theorem d_B_takeOut_23 : decode b_B_takeOut 23 = .ok (.aload_n 0, 1) := by decide +kernel
theorem d_B_takeOut_24 : decode b_B_takeOut 24 = .ok (.getfield 22, 3) := by decide +kernel
theorem d_B_takeOut_27 : decode b_B_takeOut 27 = .ok (.if_icmp .ge 23, 3) := by decide +kernel
theorem d_B_takeOut_30 : decode b_B_takeOut 30 = .ok (.aload_n 0, 1) := by decide +kernel
theorem d_B_takeOut_31 : decode b_B_takeOut 31 = .ok (.getfield 9, 3) := by decide +kernel
theorem d_B_takeOut_34 : decode b_B_takeOut 34 = .ok (.iload_n 3, 1) := by decide +kernel
theorem d_B_takeOut_35 : decode b_B_takeOut 35 = .ok (.aload_n 0, 1) := by decide +kernel
theorem d_B_takeOut_36 : decode b_B_takeOut 36 = .ok (.getfield 9, 3) := by decide +kernel
theorem d_B_takeOut_39 : decode b_B_takeOut 39 = .ok (.iload_n 3, 1) := by decide +kernel
theorem d_B_takeOut_40 : decode b_B_takeOut 40 = .ok (.iconst 1, 1) := by decide +kernel
theorem d_B_takeOut_41 : decode b_B_takeOut 41 = .ok (.iadd, 1) := by decide +kernel
theorem d_B_takeOut_42 : decode b_B_takeOut 42 = .ok (.iaload, 1) := by decide +kernel
theorem d_B_takeOut_43 : decode b_B_takeOut 43 = .ok (.iastore, 1) := by decide +kernel
theorem d_B_takeOut_44 : decode b_B_takeOut 44 = .ok (.iinc 3 1, 3) := by decide +kernel
theorem d_B_takeOut_47 : decode b_B_takeOut 47 = .ok (.goto (-25), 3) := by decide +kernel
theorem d_B_takeOut_50 : decode b_B_takeOut 50 = .ok (.return_, 1) := by decide +kernel

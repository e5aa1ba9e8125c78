theorem d_O_add_0 : decode b_O_add 0 = .ok (.aload_n 0, 1) := by decide +kernel
theorem d_O_add_1 : decode b_O_add 1 = .ok (.getfield 9, 3) := by decide +kernel
theorem d_O_add_4 : decode b_O_add 4 = .ok (.aload_n 0, 1) := by decide +kernel
theorem d_O_add_5 : decode b_O_add 5 = .ok (.getfield 15, 3) := by decide +kernel
theorem d_O_add_8 : decode b_O_add 8 = .ok (.iload_n 1, 1) := by decide +kernel
theorem d_O_add_9 : decode b_O_add 9 = .ok (.iastore, 1) := by decide +kernel
theorem d_O_add_10 : decode b_O_add 10 = .ok (.aload_n 0, 1) := by decide +kernel
theorem d_O_add_11 : decode b_O_add 11 = .ok (.dup, 1) := by decide +kernel
theorem d_O_add_12 : decode b_O_add 12 = .ok (.getfield 15, 3) := by decide +kernel
theorem d_O_add_15 : decode b_O_add 15 = .ok (.iconst 1, 1) := by decide +kernel
theorem d_O_add_16 : decode b_O_add 16 = .ok (.iadd, 1) := by decide +kernel
theorem d_O_add_17 : decode b_O_add 17 = .ok (.putfield 15, 3) := by decide +kernel
theorem d_O_add_20 : decode b_O_add 20 = .ok (.return_, 1) := by decide +kernel

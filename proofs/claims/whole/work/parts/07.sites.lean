theorem ib_6 : (Int8.ofInt 6).toInt32 = (6 : Int32) := by decide
theorem ib_7 : (Int8.ofInt 7).toInt32 = (7 : Int32) := by decide
theorem ib_8 : (Int8.ofInt 8).toInt32 = (8 : Int32) := by decide
theorem ib_10 : (Int8.ofInt 10).toInt32 = (10 : Int32) := by decide
theorem ib_11 : (Int8.ofInt 11).toInt32 = (11 : Int32) := by decide
theorem ib_12 : (Int8.ofInt 12).toInt32 = (12 : Int32) := by decide
theorem ib_16 : (Int8.ofInt 16).toInt32 = (16 : Int32) := by decide
theorem ib_24 : (Int8.ofInt 24).toInt32 = (24 : Int32) := by decide
theorem ib_27 : (Int8.ofInt 27).toInt32 = (27 : Int32) := by decide
theorem ib_32 : (Int8.ofInt 32).toInt32 = (32 : Int32) := by decide
theorem ib_40 : (Int8.ofInt 40).toInt32 = (40 : Int32) := by decide
theorem ib_41 : (Int8.ofInt 41).toInt32 = (41 : Int32) := by decide
theorem ib_64 : (Int8.ofInt 64).toInt32 = (64 : Int32) := by decide
theorem ic_m1 : Int32.ofInt (-1) = (-1 : Int32) := by decide
theorem ic_0 : Int32.ofInt 0 = (0 : Int32) := by decide
theorem ic_1 : Int32.ofInt 1 = (1 : Int32) := by decide
theorem ic_2 : Int32.ofInt 2 = (2 : Int32) := by decide
theorem ic_3 : Int32.ofInt 3 = (3 : Int32) := by decide
theorem ic_4 : Int32.ofInt 4 = (4 : Int32) := by decide
theorem ic_5 : Int32.ofInt 5 = (5 : Int32) := by decide
theorem ic_10080 : Int32.ofInt 10080 = (10080 : Int32) := by decide
theorem is_168 : (Int16.ofInt 168).toInt32 = (168 : Int32) := by decide
theorem is_200 : (Int16.ofInt 200).toInt32 = (200 : Int32) := by decide
theorem is_201 : (Int16.ofInt 201).toInt32 = (201 : Int32) := by decide
theorem is_255 : (Int16.ofInt 255).toInt32 = (255 : Int32) := by decide
theorem is_7200 : (Int16.ofInt 7200).toInt32 = (7200 : Int32) := by decide
theorem is_10079 : (Int16.ofInt 10079).toInt32 = (10079 : Int32) := by decide
theorem is_10080 : (Int16.ofInt 10080).toInt32 = (10080 : Int32) := by decide
theorem is_20000 : (Int16.ofInt 20000).toInt32 = (20000 : Int32) := by decide
theorem is_20160 : (Int16.ofInt 20160).toInt32 = (20160 : Int32) := by decide
theorem lc_0 : Int64.ofNat ((0 : Fin 2) : Nat) = (0 : Int64) := by decide
theorem lc_1 : Int64.ofNat ((1 : Fin 2) : Nat) = (1 : Int64) := by decide
theorem kw_M_133 : Cond.constant "VillageMailModel" 133 (2147483647 : Int32) ∈ wAll := wa_at (i := 890) (by decide +kernel) rfl
theorem kw_M_141 : Cond.constant "VillageMailModel" 141 (2000000000 : Int32) ∈ wAll := wa_at (i := 885) (by decide +kernel) rfl
theorem kw_R_29 : Cond.constant "VillageMail$Ride" 29 (2147483647 : Int32) ∈ wAll := wa_at (i := 503) (by decide +kernel) rfl
theorem kw_X_110 : Cond.constant "VillageMail" 110 (2000000000 : Int32) ∈ wAll := wa_at (i := 719) (by decide +kernel) rfl
theorem kw_X_123 : Cond.constant "VillageMail" 123 (2147483647 : Int32) ∈ wAll := wa_at (i := 516) (by decide +kernel) rfl
theorem kw_X_353 : Cond.constantLong "VillageMail" 353 (255 : Int64) ∈ wAll := wa_at (i := 283) (by decide +kernel) rfl
theorem fs_B_15 : FsI "VillageMail$Box" 15 16 3 .int false := ⟨by decide, 0, "VillageMail$Box", T_B, 4, ty_B, rfl, by decide, in_B, wa_at (i := 117) (by decide +kernel) rfl, fun K i r j => ⟨_, rfl, rfl, Nat.le_of_ble_eq_true rfl, fun v => rfl⟩, tk_B, nm_B, rfl, by decide +kernel⟩
theorem fs_B_19 : FsI "VillageMail$Box" 19 16 2 .int false := ⟨by decide, 0, "VillageMail$Box", T_B, 4, ty_B, rfl, by decide, in_B, wa_at (i := 115) (by decide +kernel) rfl, fun K i r j => ⟨_, rfl, rfl, Nat.le_of_ble_eq_true rfl, fun v => rfl⟩, tk_B, nm_B, rfl, by decide +kernel⟩
theorem fs_B_22 : FsI "VillageMail$Box" 22 16 1 .int false := ⟨by decide, 0, "VillageMail$Box", T_B, 4, ty_B, rfl, by decide, in_B, wa_at (i := 113) (by decide +kernel) rfl, fun K i r j => ⟨_, rfl, rfl, Nat.le_of_ble_eq_true rfl, fun v => rfl⟩, tk_B, nm_B, rfl, by decide +kernel⟩
theorem fs_B_9 : FsR "VillageMail$Box" 9 16 0 17 (fun i => i) := ⟨by decide, 0, "VillageMail$Box", T_B, 4, rfl, by decide, in_B, wa_at (i := 111) (by decide +kernel) rfl, fun K i r j => ⟨_, rfl, rfl⟩⟩
theorem fs_C_11 : FsR "VillageMail$Boxes" 11 13 0 14 (fun i => i) := ⟨by decide, 1, "VillageMail$Boxes", T_C, 2, rfl, by decide, in_C, wa_at (i := 128) (by decide +kernel) rfl, fun K i r j => ⟨_, rfl, rfl⟩⟩
theorem fs_C_18 : FsR "VillageMail$Boxes" 18 13 1 15 (fun i => i) := ⟨by decide, 1, "VillageMail$Boxes", T_C, 2, rfl, by decide, in_C, wa_at (i := 130) (by decide +kernel) rfl, fun K i r j => ⟨_, rfl, rfl⟩⟩
theorem fs_M_101 : FsR "VillageMailModel" 101 30 37 61 (fun i => 0) := ⟨by decide, 8, "VillageMailModel", T_M, 38, rfl, by decide, in_M, wa_at (i := 770) (by decide +kernel) rfl, fun K i r j => ⟨_, rfl, rfl⟩⟩
theorem fs_M_104 : FsI "VillageMailModel" 104 30 31 .int false := ⟨by decide, 8, "VillageMailModel", T_M, 38, ty_M, rfl, by decide, in_M, wa_at (i := 764) (by decide +kernel) rfl, fun K i r j => ⟨_, rfl, rfl, Nat.le_of_ble_eq_true rfl, fun v => rfl⟩, tk_M, nm_M, rfl, by decide +kernel⟩
theorem fs_M_112 : FsI "VillageMailModel" 112 30 7 .int false := ⟨by decide, 8, "VillageMailModel", T_M, 38, ty_M, rfl, by decide, in_M, wa_at (i := 740) (by decide +kernel) rfl, fun K i r j => ⟨_, rfl, rfl, Nat.le_of_ble_eq_true rfl, fun v => rfl⟩, tk_M, nm_M, rfl, by decide +kernel⟩
theorem fs_M_13 : FsR "VillageMailModel" 13 30 1 32 (fun i => 0) := ⟨by decide, 8, "VillageMailModel", T_M, 38, rfl, by decide, in_M, wa_at (i := 734) (by decide +kernel) rfl, fun K i r j => ⟨_, rfl, rfl⟩⟩
theorem fs_M_130 : FsI "VillageMailModel" 130 30 4 .int false := ⟨by decide, 8, "VillageMailModel", T_M, 38, ty_M, rfl, by decide, in_M, wa_at (i := 737) (by decide +kernel) rfl, fun K i r j => ⟨_, rfl, rfl, Nat.le_of_ble_eq_true rfl, fun v => rfl⟩, tk_M, nm_M, rfl, by decide +kernel⟩
theorem fs_M_16 : FsR "VillageMailModel" 16 30 2 33 (fun i => 0) := ⟨by decide, 8, "VillageMailModel", T_M, 38, rfl, by decide, in_M, wa_at (i := 735) (by decide +kernel) rfl, fun K i r j => ⟨_, rfl, rfl⟩⟩
theorem fs_M_180 : FsI "VillageMailModel" 180 30 30 .int false := ⟨by decide, 8, "VillageMailModel", T_M, 38, ty_M, rfl, by decide, in_M, wa_at (i := 763) (by decide +kernel) rfl, fun K i r j => ⟨_, rfl, rfl, Nat.le_of_ble_eq_true rfl, fun v => rfl⟩, tk_M, nm_M, rfl, by decide +kernel⟩
theorem fs_M_186 : FsI "VillageMailModel" 186 30 5 .int false := ⟨by decide, 8, "VillageMailModel", T_M, 38, ty_M, rfl, by decide, in_M, wa_at (i := 738) (by decide +kernel) rfl, fun K i r j => ⟨_, rfl, rfl, Nat.le_of_ble_eq_true rfl, fun v => rfl⟩, tk_M, nm_M, rfl, by decide +kernel⟩
theorem fs_M_19 : FsR "VillageMailModel" 19 30 3 34 (fun i => 0) := ⟨by decide, 8, "VillageMailModel", T_M, 38, rfl, by decide, in_M, wa_at (i := 736) (by decide +kernel) rfl, fun K i r j => ⟨_, rfl, rfl⟩⟩
theorem fs_M_198 : FsI "VillageMailModel" 198 30 35 .int false := ⟨by decide, 8, "VillageMailModel", T_M, 38, ty_M, rfl, by decide, in_M, wa_at (i := 768) (by decide +kernel) rfl, fun K i r j => ⟨_, rfl, rfl, Nat.le_of_ble_eq_true rfl, fun v => rfl⟩, tk_M, nm_M, rfl, by decide +kernel⟩
theorem fs_M_201 : FsI "VillageMailModel" 201 30 36 .int false := ⟨by decide, 8, "VillageMailModel", T_M, 38, ty_M, rfl, by decide, in_M, wa_at (i := 769) (by decide +kernel) rfl, fun K i r j => ⟨_, rfl, rfl, Nat.le_of_ble_eq_true rfl, fun v => rfl⟩, tk_M, nm_M, rfl, by decide +kernel⟩
theorem fs_M_22 : FsR "VillageMailModel" 22 30 6 35 (fun i => 0) := ⟨by decide, 8, "VillageMailModel", T_M, 38, rfl, by decide, in_M, wa_at (i := 739) (by decide +kernel) rfl, fun K i r j => ⟨_, rfl, rfl⟩⟩
theorem fs_M_25 : FsR "VillageMailModel" 25 30 8 36 (fun i => 0) := ⟨by decide, 8, "VillageMailModel", T_M, 38, rfl, by decide, in_M, wa_at (i := 741) (by decide +kernel) rfl, fun K i r j => ⟨_, rfl, rfl⟩⟩
theorem fs_M_28 : FsR "VillageMailModel" 28 30 9 37 (fun i => 0) := ⟨by decide, 8, "VillageMailModel", T_M, 38, rfl, by decide, in_M, wa_at (i := 742) (by decide +kernel) rfl, fun K i r j => ⟨_, rfl, rfl⟩⟩
theorem fs_M_31 : FsR "VillageMailModel" 31 30 10 38 (fun i => 0) := ⟨by decide, 8, "VillageMailModel", T_M, 38, rfl, by decide, in_M, wa_at (i := 743) (by decide +kernel) rfl, fun K i r j => ⟨_, rfl, rfl⟩⟩
theorem fs_M_34 : FsR "VillageMailModel" 34 30 11 39 (fun i => 0) := ⟨by decide, 8, "VillageMailModel", T_M, 38, rfl, by decide, in_M, wa_at (i := 744) (by decide +kernel) rfl, fun K i r j => ⟨_, rfl, rfl⟩⟩
theorem fs_M_37 : FsR "VillageMailModel" 37 30 12 40 (fun i => 0) := ⟨by decide, 8, "VillageMailModel", T_M, 38, rfl, by decide, in_M, wa_at (i := 745) (by decide +kernel) rfl, fun K i r j => ⟨_, rfl, rfl⟩⟩
theorem fs_M_40 : FsR "VillageMailModel" 40 30 13 41 (fun i => 0) := ⟨by decide, 8, "VillageMailModel", T_M, 38, rfl, by decide, in_M, wa_at (i := 746) (by decide +kernel) rfl, fun K i r j => ⟨_, rfl, rfl⟩⟩
theorem fs_M_43 : FsR "VillageMailModel" 43 30 14 42 (fun i => 0) := ⟨by decide, 8, "VillageMailModel", T_M, 38, rfl, by decide, in_M, wa_at (i := 747) (by decide +kernel) rfl, fun K i r j => ⟨_, rfl, rfl⟩⟩
theorem fs_M_46 : FsR "VillageMailModel" 46 30 15 43 (fun i => 0) := ⟨by decide, 8, "VillageMailModel", T_M, 38, rfl, by decide, in_M, wa_at (i := 748) (by decide +kernel) rfl, fun K i r j => ⟨_, rfl, rfl⟩⟩
theorem fs_M_49 : FsR "VillageMailModel" 49 30 16 44 (fun i => 0) := ⟨by decide, 8, "VillageMailModel", T_M, 38, rfl, by decide, in_M, wa_at (i := 749) (by decide +kernel) rfl, fun K i r j => ⟨_, rfl, rfl⟩⟩
theorem fs_M_53 : FsR "VillageMailModel" 53 30 17 45 (fun i => 0) := ⟨by decide, 8, "VillageMailModel", T_M, 38, rfl, by decide, in_M, wa_at (i := 750) (by decide +kernel) rfl, fun K i r j => ⟨_, rfl, rfl⟩⟩
theorem fs_M_56 : FsR "VillageMailModel" 56 30 18 46 (fun i => 0) := ⟨by decide, 8, "VillageMailModel", T_M, 38, rfl, by decide, in_M, wa_at (i := 751) (by decide +kernel) rfl, fun K i r j => ⟨_, rfl, rfl⟩⟩
theorem fs_M_59 : FsR "VillageMailModel" 59 30 19 47 (fun i => 0) := ⟨by decide, 8, "VillageMailModel", T_M, 38, rfl, by decide, in_M, wa_at (i := 752) (by decide +kernel) rfl, fun K i r j => ⟨_, rfl, rfl⟩⟩
theorem fs_M_62 : FsR "VillageMailModel" 62 30 20 48 (fun i => 0) := ⟨by decide, 8, "VillageMailModel", T_M, 38, rfl, by decide, in_M, wa_at (i := 753) (by decide +kernel) rfl, fun K i r j => ⟨_, rfl, rfl⟩⟩
theorem fs_M_65 : FsR "VillageMailModel" 65 30 21 49 (fun i => 0) := ⟨by decide, 8, "VillageMailModel", T_M, 38, rfl, by decide, in_M, wa_at (i := 754) (by decide +kernel) rfl, fun K i r j => ⟨_, rfl, rfl⟩⟩
theorem fs_M_68 : FsR "VillageMailModel" 68 30 22 50 (fun i => 0) := ⟨by decide, 8, "VillageMailModel", T_M, 38, rfl, by decide, in_M, wa_at (i := 755) (by decide +kernel) rfl, fun K i r j => ⟨_, rfl, rfl⟩⟩
theorem fs_M_7 : FsR "VillageMailModel" 7 30 0 31 (fun i => 0) := ⟨by decide, 8, "VillageMailModel", T_M, 38, rfl, by decide, in_M, wa_at (i := 733) (by decide +kernel) rfl, fun K i r j => ⟨_, rfl, rfl⟩⟩
theorem fs_M_71 : FsR "VillageMailModel" 71 30 23 51 (fun i => 0) := ⟨by decide, 8, "VillageMailModel", T_M, 38, rfl, by decide, in_M, wa_at (i := 756) (by decide +kernel) rfl, fun K i r j => ⟨_, rfl, rfl⟩⟩
theorem fs_M_74 : FsR "VillageMailModel" 74 30 24 52 (fun i => 0) := ⟨by decide, 8, "VillageMailModel", T_M, 38, rfl, by decide, in_M, wa_at (i := 757) (by decide +kernel) rfl, fun K i r j => ⟨_, rfl, rfl⟩⟩
theorem fs_M_77 : FsR "VillageMailModel" 77 30 25 53 (fun i => 0) := ⟨by decide, 8, "VillageMailModel", T_M, 38, rfl, by decide, in_M, wa_at (i := 758) (by decide +kernel) rfl, fun K i r j => ⟨_, rfl, rfl⟩⟩
theorem fs_M_80 : FsR "VillageMailModel" 80 30 26 54 (fun i => 0) := ⟨by decide, 8, "VillageMailModel", T_M, 38, rfl, by decide, in_M, wa_at (i := 759) (by decide +kernel) rfl, fun K i r j => ⟨_, rfl, rfl⟩⟩
theorem fs_M_83 : FsR "VillageMailModel" 83 30 27 55 (fun i => 0) := ⟨by decide, 8, "VillageMailModel", T_M, 38, rfl, by decide, in_M, wa_at (i := 760) (by decide +kernel) rfl, fun K i r j => ⟨_, rfl, rfl⟩⟩
theorem fs_M_86 : FsR "VillageMailModel" 86 30 28 56 (fun i => 0) := ⟨by decide, 8, "VillageMailModel", T_M, 38, rfl, by decide, in_M, wa_at (i := 761) (by decide +kernel) rfl, fun K i r j => ⟨_, rfl, rfl⟩⟩
theorem fs_M_89 : FsR "VillageMailModel" 89 30 29 57 (fun i => 0) := ⟨by decide, 8, "VillageMailModel", T_M, 38, rfl, by decide, in_M, wa_at (i := 762) (by decide +kernel) rfl, fun K i r j => ⟨_, rfl, rfl⟩⟩
theorem fs_M_92 : FsR "VillageMailModel" 92 30 32 58 (fun i => 0) := ⟨by decide, 8, "VillageMailModel", T_M, 38, rfl, by decide, in_M, wa_at (i := 765) (by decide +kernel) rfl, fun K i r j => ⟨_, rfl, rfl⟩⟩
theorem fs_M_95 : FsR "VillageMailModel" 95 30 33 59 (fun i => 0) := ⟨by decide, 8, "VillageMailModel", T_M, 38, rfl, by decide, in_M, wa_at (i := 766) (by decide +kernel) rfl, fun K i r j => ⟨_, rfl, rfl⟩⟩
theorem fs_M_98 : FsR "VillageMailModel" 98 30 34 60 (fun i => 0) := ⟨by decide, 8, "VillageMailModel", T_M, 38, rfl, by decide, in_M, wa_at (i := 767) (by decide +kernel) rfl, fun K i r j => ⟨_, rfl, rfl⟩⟩
theorem fs_O_15 : FsI "VillageMail$Offers" 15 26 1 .int false := ⟨by decide, 3, "VillageMail$Offers", T_O, 2, ty_O, rfl, by decide, in_O, wa_at (i := 204) (by decide +kernel) rfl, fun K i r j => ⟨_, rfl, rfl, Nat.le_of_ble_eq_true rfl, fun v => rfl⟩, tk_O, nm_O, rfl, by decide +kernel⟩
theorem fs_O_9 : FsR "VillageMail$Offers" 9 26 0 27 (fun i => i) := ⟨by decide, 3, "VillageMail$Offers", T_O, 2, rfl, by decide, in_O, wa_at (i := 202) (by decide +kernel) rfl, fun K i r j => ⟨_, rfl, rfl⟩⟩
theorem fs_R_15 : FsR "VillageMail$Ride" 15 22 1 24 (fun i => i) := ⟨by decide, 4, "VillageMail$Ride", T_R, 3, rfl, by decide, in_R, wa_at (i := 186) (by decide +kernel) rfl, fun K i r j => ⟨_, rfl, rfl⟩⟩
theorem fs_R_18 : FsR "VillageMail$Ride" 18 22 2 25 (fun i => i) := ⟨by decide, 4, "VillageMail$Ride", T_R, 3, rfl, by decide, in_R, wa_at (i := 187) (by decide +kernel) rfl, fun K i r j => ⟨_, rfl, rfl⟩⟩
theorem fs_R_42 : FsI "VillageMail$Ride" 42 1 3 .int false := ⟨by decide, 6, "VillageMail$Timetable", T_T, 4, ty_T, rfl, by decide, in_T, wa_at (i := 42) (by decide +kernel) rfl, fun K i r j => ⟨_, rfl, rfl, Nat.le_of_ble_eq_true rfl, fun v => rfl⟩, tk_T, nm_T, rfl, by decide +kernel⟩
theorem fs_R_48 : FsR "VillageMail$Ride" 48 1 2 4 (fun i => i) := ⟨by decide, 6, "VillageMail$Timetable", T_T, 4, rfl, by decide, in_T, wa_at (i := 39) (by decide +kernel) rfl, fun K i r j => ⟨_, rfl, rfl⟩⟩
theorem fs_R_51 : FsR "VillageMail$Ride" 51 1 0 2 (fun i => i) := ⟨by decide, 6, "VillageMail$Timetable", T_T, 4, rfl, by decide, in_T, wa_at (i := 35) (by decide +kernel) rfl, fun K i r j => ⟨_, rfl, rfl⟩⟩
theorem fs_R_54 : FsR "VillageMail$Ride" 54 1 1 3 (fun i => i) := ⟨by decide, 6, "VillageMail$Timetable", T_T, 4, rfl, by decide, in_T, wa_at (i := 37) (by decide +kernel) rfl, fun K i r j => ⟨_, rfl, rfl⟩⟩
theorem fs_R_9 : FsR "VillageMail$Ride" 9 22 0 23 (fun i => i) := ⟨by decide, 4, "VillageMail$Ride", T_R, 3, rfl, by decide, in_R, wa_at (i := 184) (by decide +kernel) rfl, fun K i r j => ⟨_, rfl, rfl⟩⟩
theorem fs_S_15 : FsR "VillageMail$Store" 15 7 1 8 (fun i => i) := ⟨by decide, 5, "VillageMail$Store", T_S, 9, rfl, by decide, in_S, wa_at (i := 65) (by decide +kernel) rfl, fun K i r j => ⟨_, rfl, rfl⟩⟩
theorem fs_S_25 : FsR "VillageMail$Store" 25 7 2 9 (fun i => i) := ⟨by decide, 5, "VillageMail$Store", T_S, 9, rfl, by decide, in_S, wa_at (i := 67) (by decide +kernel) rfl, fun K i r j => ⟨_, rfl, rfl⟩⟩
theorem fs_S_28 : FsR "VillageMail$Store" 28 7 3 10 (fun i => i) := ⟨by decide, 5, "VillageMail$Store", T_S, 9, rfl, by decide, in_S, wa_at (i := 69) (by decide +kernel) rfl, fun K i r j => ⟨_, rfl, rfl⟩⟩
theorem fs_S_32 : FsR "VillageMail$Store" 32 7 4 11 (fun i => i) := ⟨by decide, 5, "VillageMail$Store", T_S, 9, rfl, by decide, in_S, wa_at (i := 71) (by decide +kernel) rfl, fun K i r j => ⟨_, rfl, rfl⟩⟩
theorem fs_S_35 : FsI "VillageMail$Store" 35 7 5 .int false := ⟨by decide, 5, "VillageMail$Store", T_S, 9, ty_S, rfl, by decide, in_S, wa_at (i := 73) (by decide +kernel) rfl, fun K i r j => ⟨_, rfl, rfl, Nat.le_of_ble_eq_true rfl, fun v => rfl⟩, tk_S, nm_S, rfl, by decide +kernel⟩
theorem fs_S_9 : FsI "VillageMail$Store" 9 7 0 .int true := ⟨by decide, 5, "VillageMail$Store", T_S, 9, ty_S, rfl, by decide, in_S, wa_at (i := 64) (by decide +kernel) rfl, fun K i r j => ⟨_, rfl, rfl, Nat.le_of_ble_eq_true rfl, fun v => rfl⟩, tk_S, nm_S, rfl, by decide +kernel⟩
theorem fs_T_15 : FsR "VillageMail$Timetable" 15 1 1 3 (fun i => i) := ⟨by decide, 6, "VillageMail$Timetable", T_T, 4, rfl, by decide, in_T, wa_at (i := 36) (by decide +kernel) rfl, fun K i r j => ⟨_, rfl, rfl⟩⟩
theorem fs_T_18 : FsR "VillageMail$Timetable" 18 1 2 4 (fun i => i) := ⟨by decide, 6, "VillageMail$Timetable", T_T, 4, rfl, by decide, in_T, wa_at (i := 38) (by decide +kernel) rfl, fun K i r j => ⟨_, rfl, rfl⟩⟩
theorem fs_T_21 : FsI "VillageMail$Timetable" 21 1 3 .int false := ⟨by decide, 6, "VillageMail$Timetable", T_T, 4, ty_T, rfl, by decide, in_T, wa_at (i := 40) (by decide +kernel) rfl, fun K i r j => ⟨_, rfl, rfl, Nat.le_of_ble_eq_true rfl, fun v => rfl⟩, tk_T, nm_T, rfl, by decide +kernel⟩
theorem fs_T_9 : FsR "VillageMail$Timetable" 9 1 0 2 (fun i => i) := ⟨by decide, 6, "VillageMail$Timetable", T_T, 4, rfl, by decide, in_T, wa_at (i := 34) (by decide +kernel) rfl, fun K i r j => ⟨_, rfl, rfl⟩⟩
theorem fs_X_100 : FsI "VillageMail" 100 0 3 .int false := ⟨by decide, 7, "VillageMail", T_X, 16, ty_X, rfl, by decide, in_X, wa_at (i := 214) (by decide +kernel) rfl, fun K i r j => ⟨_, rfl, rfl, Nat.le_of_ble_eq_true rfl, fun v => rfl⟩, tk_X, nm_X, rfl, by decide +kernel⟩
theorem fs_X_107 : FsI "VillageMail" 107 7 6 .int false := ⟨by decide, 5, "VillageMail$Store", T_S, 9, ty_S, rfl, by decide, in_S, wa_at (i := 74) (by decide +kernel) rfl, fun K i r j => ⟨_, rfl, rfl, Nat.le_of_ble_eq_true rfl, fun v => rfl⟩, tk_S, nm_S, rfl, by decide +kernel⟩
theorem fs_X_119 : FsR "VillageMail" 119 22 0 23 (fun i => i) := ⟨by decide, 4, "VillageMail$Ride", T_R, 3, rfl, by decide, in_R, wa_at (i := 185) (by decide +kernel) rfl, fun K i r j => ⟨_, rfl, rfl⟩⟩
theorem fs_X_12 : FsR "VillageMail" 12 0 1 1 (fun i => 7) := ⟨by decide, 7, "VillageMail", T_X, 16, rfl, by decide, in_X, wa_at (i := 212) (by decide +kernel) rfl, fun K i r j => ⟨_, rfl, rfl⟩⟩
theorem fs_X_127 : FsR "VillageMail" 127 13 0 14 (fun i => i) := ⟨by decide, 1, "VillageMail$Boxes", T_C, 2, rfl, by decide, in_C, wa_at (i := 129) (by decide +kernel) rfl, fun K i r j => ⟨_, rfl, rfl⟩⟩
theorem fs_X_131 : FsI "VillageMail" 131 16 3 .int false := ⟨by decide, 0, "VillageMail$Box", T_B, 4, ty_B, rfl, by decide, in_B, wa_at (i := 118) (by decide +kernel) rfl, fun K i r j => ⟨_, rfl, rfl, Nat.le_of_ble_eq_true rfl, fun v => rfl⟩, tk_B, nm_B, rfl, by decide +kernel⟩
theorem fs_X_142 : FsI "VillageMail" 142 16 1 .int false := ⟨by decide, 0, "VillageMail$Box", T_B, 4, ty_B, rfl, by decide, in_B, wa_at (i := 114) (by decide +kernel) rfl, fun K i r j => ⟨_, rfl, rfl, Nat.le_of_ble_eq_true rfl, fun v => rfl⟩, tk_B, nm_B, rfl, by decide +kernel⟩
theorem fs_X_143 : FsI "VillageMail" 143 16 2 .int false := ⟨by decide, 0, "VillageMail$Box", T_B, 4, ty_B, rfl, by decide, in_B, wa_at (i := 116) (by decide +kernel) rfl, fun K i r j => ⟨_, rfl, rfl, Nat.le_of_ble_eq_true rfl, fun v => rfl⟩, tk_B, nm_B, rfl, by decide +kernel⟩
theorem fs_X_150 : FsR "VillageMail" 150 16 0 17 (fun i => i) := ⟨by decide, 0, "VillageMail$Box", T_B, 4, rfl, by decide, in_B, wa_at (i := 112) (by decide +kernel) rfl, fun K i r j => ⟨_, rfl, rfl⟩⟩
theorem fs_X_152 : FsI "VillageMail" 152 19 6 .int false := ⟨by decide, 2, "VillageMail$Letter", T_L, 11, ty_L, rfl, by decide, in_L, wa_at (i := 149) (by decide +kernel) rfl, fun K i r j => ⟨_, rfl, rfl, Nat.le_of_ble_eq_true rfl, fun v => rfl⟩, tk_L, nm_L, rfl, by decide +kernel⟩
theorem fs_X_155 : FsR "VillageMail" 155 19 10 20 (fun i => i) := ⟨by decide, 2, "VillageMail$Letter", T_L, 11, rfl, by decide, in_L, wa_at (i := 154) (by decide +kernel) rfl, fun K i r j => ⟨_, rfl, rfl⟩⟩
theorem fs_X_16 : FsR "VillageMail" 16 0 2 5 (fun i => 0) := ⟨by decide, 7, "VillageMail", T_X, 16, rfl, by decide, in_X, wa_at (i := 213) (by decide +kernel) rfl, fun K i r j => ⟨_, rfl, rfl⟩⟩
theorem fs_X_164 : FsI "VillageMail" 164 0 9 .int false := ⟨by decide, 7, "VillageMail", T_X, 16, ty_X, rfl, by decide, in_X, wa_at (i := 220) (by decide +kernel) rfl, fun K i r j => ⟨_, rfl, rfl, Nat.le_of_ble_eq_true rfl, fun v => rfl⟩, tk_X, nm_X, rfl, by decide +kernel⟩
theorem fs_X_171 : FsI "VillageMail" 171 0 7 .int false := ⟨by decide, 7, "VillageMail", T_X, 16, ty_X, rfl, by decide, in_X, wa_at (i := 218) (by decide +kernel) rfl, fun K i r j => ⟨_, rfl, rfl, Nat.le_of_ble_eq_true rfl, fun v => rfl⟩, tk_X, nm_X, rfl, by decide +kernel⟩
theorem fs_X_182 : FsI "VillageMail" 182 19 0 .int false := ⟨by decide, 2, "VillageMail$Letter", T_L, 11, ty_L, rfl, by decide, in_L, wa_at (i := 143) (by decide +kernel) rfl, fun K i r j => ⟨_, rfl, rfl, Nat.le_of_ble_eq_true rfl, fun v => rfl⟩, tk_L, nm_L, rfl, by decide +kernel⟩
theorem fs_X_185 : FsI "VillageMail" 185 19 1 .int false := ⟨by decide, 2, "VillageMail$Letter", T_L, 11, ty_L, rfl, by decide, in_L, wa_at (i := 144) (by decide +kernel) rfl, fun K i r j => ⟨_, rfl, rfl, Nat.le_of_ble_eq_true rfl, fun v => rfl⟩, tk_L, nm_L, rfl, by decide +kernel⟩
theorem fs_X_188 : FsI "VillageMail" 188 19 2 .int false := ⟨by decide, 2, "VillageMail$Letter", T_L, 11, ty_L, rfl, by decide, in_L, wa_at (i := 145) (by decide +kernel) rfl, fun K i r j => ⟨_, rfl, rfl, Nat.le_of_ble_eq_true rfl, fun v => rfl⟩, tk_L, nm_L, rfl, by decide +kernel⟩
theorem fs_X_191 : FsI "VillageMail" 191 19 3 .int false := ⟨by decide, 2, "VillageMail$Letter", T_L, 11, ty_L, rfl, by decide, in_L, wa_at (i := 146) (by decide +kernel) rfl, fun K i r j => ⟨_, rfl, rfl, Nat.le_of_ble_eq_true rfl, fun v => rfl⟩, tk_L, nm_L, rfl, by decide +kernel⟩
theorem fs_X_194 : FsI "VillageMail" 194 0 0 .int false := ⟨by decide, 7, "VillageMail", T_X, 16, ty_X, rfl, by decide, in_X, wa_at (i := 211) (by decide +kernel) rfl, fun K i r j => ⟨_, rfl, rfl, Nat.le_of_ble_eq_true rfl, fun v => rfl⟩, tk_X, nm_X, rfl, by decide +kernel⟩
theorem fs_X_197 : FsI "VillageMail" 197 19 4 .int false := ⟨by decide, 2, "VillageMail$Letter", T_L, 11, ty_L, rfl, by decide, in_L, wa_at (i := 147) (by decide +kernel) rfl, fun K i r j => ⟨_, rfl, rfl, Nat.le_of_ble_eq_true rfl, fun v => rfl⟩, tk_L, nm_L, rfl, by decide +kernel⟩
theorem fs_X_200 : FsI "VillageMail" 200 19 5 .int false := ⟨by decide, 2, "VillageMail$Letter", T_L, 11, ty_L, rfl, by decide, in_L, wa_at (i := 148) (by decide +kernel) rfl, fun K i r j => ⟨_, rfl, rfl, Nat.le_of_ble_eq_true rfl, fun v => rfl⟩, tk_L, nm_L, rfl, by decide +kernel⟩
theorem fs_X_207 : FsI "VillageMail" 207 19 7 .int false := ⟨by decide, 2, "VillageMail$Letter", T_L, 11, ty_L, rfl, by decide, in_L, wa_at (i := 150) (by decide +kernel) rfl, fun K i r j => ⟨_, rfl, rfl, Nat.le_of_ble_eq_true rfl, fun v => rfl⟩, tk_L, nm_L, rfl, by decide +kernel⟩
theorem fs_X_22 : FsR "VillageMail" 22 0 4 6 (fun i => 0) := ⟨by decide, 7, "VillageMail", T_X, 16, rfl, by decide, in_X, wa_at (i := 215) (by decide +kernel) rfl, fun K i r j => ⟨_, rfl, rfl⟩⟩
theorem fs_X_227 : FsR "VillageMail" 227 7 4 11 (fun i => i) := ⟨by decide, 5, "VillageMail$Store", T_S, 9, rfl, by decide, in_S, wa_at (i := 72) (by decide +kernel) rfl, fun K i r j => ⟨_, rfl, rfl⟩⟩
theorem fs_X_230 : FsI "VillageMail" 230 19 9 .boolean false := ⟨by decide, 2, "VillageMail$Letter", T_L, 11, ty_L, rfl, by decide, in_L, wa_at (i := 152) (by decide +kernel) rfl, fun K i r j => ⟨_, rfl, rfl, Nat.le_of_ble_eq_true rfl, fun v => rfl⟩, tk_L, nm_L, rfl, by decide +kernel⟩
theorem fs_X_240 : FsI "VillageMail" 240 19 8 .boolean false := ⟨by decide, 2, "VillageMail$Letter", T_L, 11, ty_L, rfl, by decide, in_L, wa_at (i := 151) (by decide +kernel) rfl, fun K i r j => ⟨_, rfl, rfl, Nat.le_of_ble_eq_true rfl, fun v => rfl⟩, tk_L, nm_L, rfl, by decide +kernel⟩
theorem fs_X_247 : FsI "VillageMail" 247 7 7 .int false := ⟨by decide, 5, "VillageMail$Store", T_S, 9, ty_S, rfl, by decide, in_S, wa_at (i := 75) (by decide +kernel) rfl, fun K i r j => ⟨_, rfl, rfl, Nat.le_of_ble_eq_true rfl, fun v => rfl⟩, tk_S, nm_S, rfl, by decide +kernel⟩
theorem fs_X_253 : FsR "VillageMail" 253 7 3 10 (fun i => i) := ⟨by decide, 5, "VillageMail$Store", T_S, 9, rfl, by decide, in_S, wa_at (i := 70) (by decide +kernel) rfl, fun K i r j => ⟨_, rfl, rfl⟩⟩
theorem fs_X_272 : FsI "VillageMail" 272 0 14 .int false := ⟨by decide, 7, "VillageMail", T_X, 16, ty_X, rfl, by decide, in_X, wa_at (i := 225) (by decide +kernel) rfl, fun K i r j => ⟨_, rfl, rfl, Nat.le_of_ble_eq_true rfl, fun v => rfl⟩, tk_X, nm_X, rfl, by decide +kernel⟩
theorem fs_X_275 : FsI "VillageMail" 275 0 15 .int false := ⟨by decide, 7, "VillageMail", T_X, 16, ty_X, rfl, by decide, in_X, wa_at (i := 226) (by decide +kernel) rfl, fun K i r j => ⟨_, rfl, rfl, Nat.le_of_ble_eq_true rfl, fun v => rfl⟩, tk_X, nm_X, rfl, by decide +kernel⟩
theorem fs_X_300 : FsR "VillageMail" 300 7 2 9 (fun i => i) := ⟨by decide, 5, "VillageMail$Store", T_S, 9, rfl, by decide, in_S, wa_at (i := 68) (by decide +kernel) rfl, fun K i r j => ⟨_, rfl, rfl⟩⟩
theorem fs_X_31 : FsR "VillageMail" 31 0 5 12 (fun i => 0) := ⟨by decide, 7, "VillageMail", T_X, 16, rfl, by decide, in_X, wa_at (i := 216) (by decide +kernel) rfl, fun K i r j => ⟨_, rfl, rfl⟩⟩
theorem fs_X_312 : FsI "VillageMail" 312 26 1 .int false := ⟨by decide, 3, "VillageMail$Offers", T_O, 2, ty_O, rfl, by decide, in_O, wa_at (i := 205) (by decide +kernel) rfl, fun K i r j => ⟨_, rfl, rfl, Nat.le_of_ble_eq_true rfl, fun v => rfl⟩, tk_O, nm_O, rfl, by decide +kernel⟩
theorem fs_X_322 : FsR "VillageMail" 322 26 0 27 (fun i => i) := ⟨by decide, 3, "VillageMail$Offers", T_O, 2, rfl, by decide, in_O, wa_at (i := 203) (by decide +kernel) rfl, fun K i r j => ⟨_, rfl, rfl⟩⟩
theorem fs_X_329 : FsI "VillageMail" 329 7 8 .int false := ⟨by decide, 5, "VillageMail$Store", T_S, 9, ty_S, rfl, by decide, in_S, wa_at (i := 76) (by decide +kernel) rfl, fun K i r j => ⟨_, rfl, rfl, Nat.le_of_ble_eq_true rfl, fun v => rfl⟩, tk_S, nm_S, rfl, by decide +kernel⟩
theorem fs_X_332 : FsR "VillageMail" 332 7 1 8 (fun i => i) := ⟨by decide, 5, "VillageMail$Store", T_S, 9, rfl, by decide, in_S, wa_at (i := 66) (by decide +kernel) rfl, fun K i r j => ⟨_, rfl, rfl⟩⟩
theorem fs_X_38 : FsR "VillageMail" 38 0 6 18 (fun i => 0) := ⟨by decide, 7, "VillageMail", T_X, 16, rfl, by decide, in_X, wa_at (i := 217) (by decide +kernel) rfl, fun K i r j => ⟨_, rfl, rfl⟩⟩
theorem fs_X_43 : FsR "VillageMail" 43 0 8 21 (fun i => 0) := ⟨by decide, 7, "VillageMail", T_X, 16, rfl, by decide, in_X, wa_at (i := 219) (by decide +kernel) rfl, fun K i r j => ⟨_, rfl, rfl⟩⟩
theorem fs_X_50 : FsR "VillageMail" 50 0 10 22 (fun i => 0) := ⟨by decide, 7, "VillageMail", T_X, 16, rfl, by decide, in_X, wa_at (i := 221) (by decide +kernel) rfl, fun K i r j => ⟨_, rfl, rfl⟩⟩
theorem fs_X_54 : FsR "VillageMail" 54 0 11 22 (fun i => 1) := ⟨by decide, 7, "VillageMail", T_X, 16, rfl, by decide, in_X, wa_at (i := 222) (by decide +kernel) rfl, fun K i r j => ⟨_, rfl, rfl⟩⟩
theorem fs_X_60 : FsR "VillageMail" 60 0 12 26 (fun i => 0) := ⟨by decide, 7, "VillageMail", T_X, 16, rfl, by decide, in_X, wa_at (i := 223) (by decide +kernel) rfl, fun K i r j => ⟨_, rfl, rfl⟩⟩
theorem fs_X_64 : FsR "VillageMail" 64 0 13 26 (fun i => 1) := ⟨by decide, 7, "VillageMail", T_X, 16, rfl, by decide, in_X, wa_at (i := 224) (by decide +kernel) rfl, fun K i r j => ⟨_, rfl, rfl⟩⟩
theorem fs_X_86 : FsI "VillageMail" 86 1 3 .int false := ⟨by decide, 6, "VillageMail$Timetable", T_T, 4, ty_T, rfl, by decide, in_T, wa_at (i := 41) (by decide +kernel) rfl, fun K i r j => ⟨_, rfl, rfl, Nat.le_of_ble_eq_true rfl, fun v => rfl⟩, tk_T, nm_T, rfl, by decide +kernel⟩

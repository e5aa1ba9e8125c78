def y_T_init : MethodName := ⟨"VillageMail$Timetable", "<init>", "()V"⟩
abbrev b_T_init : ByteArray := prog_8_method_1_code
def y_S_init : MethodName := ⟨"VillageMail$Store", "<init>", "(I)V"⟩
abbrev b_S_init : ByteArray := prog_7_method_1_code
def y_B_init : MethodName := ⟨"VillageMail$Box", "<init>", "()V"⟩
abbrev b_B_init : ByteArray := prog_2_method_1_code
def y_C_init : MethodName := ⟨"VillageMail$Boxes", "<init>", "()V"⟩
abbrev b_C_init : ByteArray := prog_3_method_1_code
def y_L_init : MethodName := ⟨"VillageMail$Letter", "<init>", "()V"⟩
abbrev b_L_init : ByteArray := prog_4_method_1_code
def y_R_init : MethodName := ⟨"VillageMail$Ride", "<init>", "()V"⟩
abbrev b_R_init : ByteArray := prog_6_method_1_code
def y_O_init : MethodName := ⟨"VillageMail$Offers", "<init>", "()V"⟩
abbrev b_O_init : ByteArray := prog_5_method_1_code
def y_X_init : MethodName := ⟨"VillageMail", "<init>", "()V"⟩
abbrev b_X_init : ByteArray := prog_1_method_1_code
def y_M_init : MethodName := ⟨"VillageMailModel", "<init>", "()V"⟩
abbrev b_M_init : ByteArray := prog_10_method_1_code
theorem ib_48 : (Int8.ofInt 48).toInt32 = (48 : Int32) := by decide
theorem is_128 : (Int16.ofInt 128).toInt32 = (128 : Int32) := by decide
theorem is_192 : (Int16.ofInt 192).toInt32 = (192 : Int32) := by decide
theorem is_384 : (Int16.ofInt 384).toInt32 = (384 : Int32) := by decide
theorem is_512 : (Int16.ofInt 512).toInt32 = (512 : Int32) := by decide
theorem is_768 : (Int16.ofInt 768).toInt32 = (768 : Int32) := by decide
theorem is_6144 : (Int16.ofInt 6144).toInt32 = (6144 : Int32) := by decide
theorem cs_S_19 : CsS "VillageMail$Store" 19 y_A_fill b_A_fill 4 none 2 := ⟨gd_s (wa_at (i := 61) (by decide +kernel) rfl) (wa_at (i := 62) (by decide +kernel) rfl) (wa_at (i := 4) (by decide +kernel) rfl) (wa_at (i := 63) (by decide +kernel) rfl), by decide +kernel, by decide +kernel, by decide +kernel⟩
theorem ai_53 : AiB 53 24 := fun _ _ _ _ => rfl
theorem ai_8 : AiB 8 64 := fun _ _ _ _ => rfl
theorem aq_12 : AqB 12 8 5 13 (fun i j => j) := ⟨1, ("VillageMail$Boxes", T_C, 2), rfl, fun _ => rfl, fun _ _ _ _ => rfl, fun _ _ _ _ => ⟨_, rfl⟩⟩
theorem aq_14 : AqB 14 3 6 16 (fun i j => (3 * i + j)) := ⟨0, ("VillageMail$Box", T_B, 4), rfl, fun _ => rfl, fun _ _ _ _ => rfl, fun _ _ _ _ => ⟨_, rfl⟩⟩
theorem aq_18 : AqB 18 16 7 19 (fun i j => j) := ⟨2, ("VillageMail$Letter", T_L, 11), rfl, fun _ => rfl, fun _ _ _ _ => rfl, fun _ _ _ _ => ⟨_, rfl⟩⟩
theorem aq_5 : AqB 5 7 3 1 (fun i j => j) := ⟨6, ("VillageMail$Timetable", T_T, 4), rfl, fun _ => rfl, fun _ _ _ _ => rfl, fun _ _ _ _ => ⟨_, rfl⟩⟩
theorem aq_6 : AqB 6 12 4 7 (fun i j => j) := ⟨5, ("VillageMail$Store", T_S, 9), rfl, fun _ => rfl, fun _ _ _ _ => rfl, fun _ _ _ _ => ⟨_, rfl⟩⟩
theorem bi_10 : Bi 10 64 1 .long := ⟨rfl, wa_at (i := 96) (by decide +kernel) rfl, fun _ => rfl, fun _ _ h => h, fun K i => ⟨(64, .inr (.inl fun _ => 0)), rfl, fun _ => rfl⟩⟩
theorem bi_11 : Bi 11 16 0 .int := ⟨rfl, wa_at (i := 52) (by decide +kernel) rfl, fun _ => rfl, fun _ _ h => h, fun K i => ⟨(16, .inl fun _ => 0), rfl, fun _ => rfl⟩⟩
theorem bi_15 : Bi 15 2 0 .int := ⟨rfl, wa_at (i := 52) (by decide +kernel) rfl, fun _ => rfl, fun _ _ h => h, fun K i => ⟨(2, .inl fun _ => 0), rfl, fun _ => rfl⟩⟩
theorem bi_17 : Bi 17 16 0 .int := ⟨rfl, wa_at (i := 52) (by decide +kernel) rfl, fun _ => rfl, fun _ _ h => h, fun K i => ⟨(16, .inl fun _ => 0), rfl, fun _ => rfl⟩⟩
theorem bi_2 : Bi 2 24 0 .int := ⟨rfl, wa_at (i := 52) (by decide +kernel) rfl, fun _ => rfl, fun _ _ h => h, fun K i => ⟨(24, .inl fun _ => 0), rfl, fun _ => rfl⟩⟩
theorem bi_20 : Bi 20 4 1 .long := ⟨rfl, wa_at (i := 96) (by decide +kernel) rfl, fun _ => rfl, fun _ _ h => h, fun K i => ⟨(4, .inr (.inl fun _ => 0)), rfl, fun _ => rfl⟩⟩
theorem bi_21 : Bi 21 4 1 .long := ⟨rfl, wa_at (i := 96) (by decide +kernel) rfl, fun _ => rfl, fun _ _ h => h, fun K i => ⟨(4, .inr (.inl fun _ => 0)), rfl, fun _ => rfl⟩⟩
theorem bi_23 : Bi 23 8 0 .int := ⟨rfl, wa_at (i := 52) (by decide +kernel) rfl, fun _ => rfl, fun _ _ h => h, fun K i => ⟨(8, .inl fun _ => 0), rfl, fun _ => rfl⟩⟩
theorem bi_24 : Bi 24 8 0 .int := ⟨rfl, wa_at (i := 52) (by decide +kernel) rfl, fun _ => rfl, fun _ _ h => h, fun K i => ⟨(8, .inl fun _ => 0), rfl, fun _ => rfl⟩⟩
theorem bi_25 : Bi 25 4 2 .boolean := ⟨rfl, wa_at (i := 195) (by decide +kernel) rfl, fun _ => rfl, fun _ _ h => h, fun K i => ⟨(4, .inl fun _ => 0), rfl, fun _ => rfl⟩⟩
theorem bi_27 : Bi 27 24 0 .int := ⟨rfl, wa_at (i := 52) (by decide +kernel) rfl, fun _ => rfl, fun _ _ h => h, fun K i => ⟨(24, .inl fun _ => 0), rfl, fun _ => rfl⟩⟩
theorem bi_3 : Bi 3 24 0 .int := ⟨rfl, wa_at (i := 52) (by decide +kernel) rfl, fun _ => rfl, fun _ _ h => h, fun K i => ⟨(24, .inl fun _ => 0), rfl, fun _ => rfl⟩⟩
theorem bi_31 : Bi 31 192 0 .int := ⟨rfl, wa_at (i := 52) (by decide +kernel) rfl, fun _ => rfl, fun _ _ h => h, fun K i => ⟨(192, .inl fun _ => 0), rfl, fun _ => rfl⟩⟩
theorem bi_32 : Bi 32 192 0 .int := ⟨rfl, wa_at (i := 52) (by decide +kernel) rfl, fun _ => rfl, fun _ _ h => h, fun K i => ⟨(192, .inl fun _ => 0), rfl, fun _ => rfl⟩⟩
theorem bi_33 : Bi 33 192 0 .int := ⟨rfl, wa_at (i := 52) (by decide +kernel) rfl, fun _ => rfl, fun _ _ h => h, fun K i => ⟨(192, .inl fun _ => 0), rfl, fun _ => rfl⟩⟩
theorem bi_34 : Bi 34 8 0 .int := ⟨rfl, wa_at (i := 52) (by decide +kernel) rfl, fun _ => rfl, fun _ _ h => h, fun K i => ⟨(8, .inl fun _ => 0), rfl, fun _ => rfl⟩⟩
theorem bi_35 : Bi 35 12 0 .int := ⟨rfl, wa_at (i := 52) (by decide +kernel) rfl, fun _ => rfl, fun _ _ h => h, fun K i => ⟨(12, .inl fun _ => 0), rfl, fun _ => rfl⟩⟩
theorem bi_36 : Bi 36 16 0 .int := ⟨rfl, wa_at (i := 52) (by decide +kernel) rfl, fun _ => rfl, fun _ _ h => h, fun K i => ⟨(16, .inl fun _ => 0), rfl, fun _ => rfl⟩⟩
theorem bi_37 : Bi 37 16 0 .int := ⟨rfl, wa_at (i := 52) (by decide +kernel) rfl, fun _ => rfl, fun _ _ h => h, fun K i => ⟨(16, .inl fun _ => 0), rfl, fun _ => rfl⟩⟩
theorem bi_38 : Bi 38 16 0 .int := ⟨rfl, wa_at (i := 52) (by decide +kernel) rfl, fun _ => rfl, fun _ _ h => h, fun K i => ⟨(16, .inl fun _ => 0), rfl, fun _ => rfl⟩⟩
theorem bi_39 : Bi 39 16 0 .int := ⟨rfl, wa_at (i := 52) (by decide +kernel) rfl, fun _ => rfl, fun _ _ h => h, fun K i => ⟨(16, .inl fun _ => 0), rfl, fun _ => rfl⟩⟩
theorem bi_4 : Bi 4 24 0 .int := ⟨rfl, wa_at (i := 52) (by decide +kernel) rfl, fun _ => rfl, fun _ _ h => h, fun K i => ⟨(24, .inl fun _ => 0), rfl, fun _ => rfl⟩⟩
theorem bi_40 : Bi 40 16 0 .int := ⟨rfl, wa_at (i := 52) (by decide +kernel) rfl, fun _ => rfl, fun _ _ h => h, fun K i => ⟨(16, .inl fun _ => 0), rfl, fun _ => rfl⟩⟩
theorem bi_41 : Bi 41 16 0 .int := ⟨rfl, wa_at (i := 52) (by decide +kernel) rfl, fun _ => rfl, fun _ _ h => h, fun K i => ⟨(16, .inl fun _ => 0), rfl, fun _ => rfl⟩⟩
theorem bi_42 : Bi 42 16 0 .int := ⟨rfl, wa_at (i := 52) (by decide +kernel) rfl, fun _ => rfl, fun _ _ h => h, fun K i => ⟨(16, .inl fun _ => 0), rfl, fun _ => rfl⟩⟩
theorem bi_43 : Bi 43 16 0 .int := ⟨rfl, wa_at (i := 52) (by decide +kernel) rfl, fun _ => rfl, fun _ _ h => h, fun K i => ⟨(16, .inl fun _ => 0), rfl, fun _ => rfl⟩⟩
theorem bi_44 : Bi 44 16 2 .boolean := ⟨rfl, wa_at (i := 195) (by decide +kernel) rfl, fun _ => rfl, fun _ _ h => h, fun K i => ⟨(16, .inl fun _ => 0), rfl, fun _ => rfl⟩⟩
theorem bi_45 : Bi 45 512 0 .int := ⟨rfl, wa_at (i := 52) (by decide +kernel) rfl, fun _ => rfl, fun _ _ h => h, fun K i => ⟨(512, .inl fun _ => 0), rfl, fun _ => rfl⟩⟩
theorem bi_46 : Bi 46 768 2 .boolean := ⟨rfl, wa_at (i := 195) (by decide +kernel) rfl, fun _ => rfl, fun _ _ h => h, fun K i => ⟨(768, .inl fun _ => 0), rfl, fun _ => rfl⟩⟩
theorem bi_47 : Bi 47 768 0 .int := ⟨rfl, wa_at (i := 52) (by decide +kernel) rfl, fun _ => rfl, fun _ _ h => h, fun K i => ⟨(768, .inl fun _ => 0), rfl, fun _ => rfl⟩⟩
theorem bi_48 : Bi 48 768 0 .int := ⟨rfl, wa_at (i := 52) (by decide +kernel) rfl, fun _ => rfl, fun _ _ h => h, fun K i => ⟨(768, .inl fun _ => 0), rfl, fun _ => rfl⟩⟩
theorem bi_49 : Bi 49 6144 0 .int := ⟨rfl, wa_at (i := 52) (by decide +kernel) rfl, fun _ => rfl, fun _ _ h => h, fun K i => ⟨(6144, .inl fun _ => 0), rfl, fun _ => rfl⟩⟩
theorem bi_50 : Bi 50 192 0 .int := ⟨rfl, wa_at (i := 52) (by decide +kernel) rfl, fun _ => rfl, fun _ _ h => h, fun K i => ⟨(192, .inl fun _ => 0), rfl, fun _ => rfl⟩⟩
theorem bi_51 : Bi 51 12 0 .int := ⟨rfl, wa_at (i := 52) (by decide +kernel) rfl, fun _ => rfl, fun _ _ h => h, fun K i => ⟨(12, .inl fun _ => 0), rfl, fun _ => rfl⟩⟩
theorem bi_52 : Bi 52 12 0 .int := ⟨rfl, wa_at (i := 52) (by decide +kernel) rfl, fun _ => rfl, fun _ _ h => h, fun K i => ⟨(12, .inl fun _ => 0), rfl, fun _ => rfl⟩⟩
theorem bi_53 : Bi 53 24 0 .int := ⟨rfl, wa_at (i := 52) (by decide +kernel) rfl, fun _ => rfl, fun _ _ h => h, fun K i => ⟨(24, .inl fun _ => 0), rfl, fun _ => rfl⟩⟩
theorem bi_54 : Bi 54 24 0 .int := ⟨rfl, wa_at (i := 52) (by decide +kernel) rfl, fun _ => rfl, fun _ _ h => h, fun K i => ⟨(24, .inl fun _ => 0), rfl, fun _ => rfl⟩⟩
theorem bi_55 : Bi 55 384 0 .int := ⟨rfl, wa_at (i := 52) (by decide +kernel) rfl, fun _ => rfl, fun _ _ h => h, fun K i => ⟨(384, .inl fun _ => 0), rfl, fun _ => rfl⟩⟩
theorem bi_56 : Bi 56 48 2 .boolean := ⟨rfl, wa_at (i := 195) (by decide +kernel) rfl, fun _ => rfl, fun _ _ h => h, fun K i => ⟨(48, .inl fun _ => 0), rfl, fun _ => rfl⟩⟩
theorem bi_57 : Bi 57 32 0 .int := ⟨rfl, wa_at (i := 52) (by decide +kernel) rfl, fun _ => rfl, fun _ _ h => h, fun K i => ⟨(32, .inl fun _ => 0), rfl, fun _ => rfl⟩⟩
theorem bi_58 : Bi 58 4 2 .boolean := ⟨rfl, wa_at (i := 195) (by decide +kernel) rfl, fun _ => rfl, fun _ _ h => h, fun K i => ⟨(4, .inl fun _ => 0), rfl, fun _ => rfl⟩⟩
theorem bi_59 : Bi 59 8 0 .int := ⟨rfl, wa_at (i := 52) (by decide +kernel) rfl, fun _ => rfl, fun _ _ h => h, fun K i => ⟨(8, .inl fun _ => 0), rfl, fun _ => rfl⟩⟩
theorem bi_60 : Bi 60 128 2 .boolean := ⟨rfl, wa_at (i := 195) (by decide +kernel) rfl, fun _ => rfl, fun _ _ h => h, fun K i => ⟨(128, .inl fun _ => 0), rfl, fun _ => rfl⟩⟩
theorem bi_61 : Bi 61 8 0 .int := ⟨rfl, wa_at (i := 52) (by decide +kernel) rfl, fun _ => rfl, fun _ _ h => h, fun K i => ⟨(8, .inl fun _ => 0), rfl, fun _ => rfl⟩⟩
theorem bi_8 : Bi 8 64 0 .int := ⟨rfl, wa_at (i := 52) (by decide +kernel) rfl, fun _ => rfl, fun _ _ h => h, fun K i => ⟨(64, .inl fun _ => 0), rfl, fun _ => rfl⟩⟩
theorem bi_9 : Bi 9 64 0 .int := ⟨rfl, wa_at (i := 52) (by decide +kernel) rfl, fun _ => rfl, fun _ _ h => h, fun K i => ⟨(64, .inl fun _ => 0), rfl, fun _ => rfl⟩⟩
set_option maxRecDepth 100000 in
theorem bn_C_9_16 : Bn "VillageMail$Boxes" 9 16 := ⟨0, "VillageMail$Box", T_B, ty_B, [.null, .int 0, .int 0, .int 0], rfl, in_B, tk_B, wa_at (i := 104) (by decide +kernel) rfl, wa_at (i := 106) (by decide +kernel) rfl, wa_at (i := 6) (by decide +kernel) rfl, by decide +kernel, fun K i => rfl⟩
set_option maxRecDepth 100000 in
theorem bn_X_20_7 : Bn "VillageMail" 20 7 := ⟨5, "VillageMail$Store", T_S, ty_S, [.int 0, .null, .null, .null, .null, .int 0, .int 0, .int 0, .int 0], rfl, in_S, tk_S, wa_at (i := 54) (by decide +kernel) rfl, wa_at (i := 56) (by decide +kernel) rfl, wa_at (i := 3) (by decide +kernel) rfl, by decide +kernel, fun K i => rfl⟩
set_option maxRecDepth 100000 in
theorem bn_X_29_13 : Bn "VillageMail" 29 13 := ⟨1, "VillageMail$Boxes", T_C, ty_C, [.null, .null], rfl, in_C, tk_C, wa_at (i := 97) (by decide +kernel) rfl, wa_at (i := 99) (by decide +kernel) rfl, wa_at (i := 5) (by decide +kernel) rfl, by decide +kernel, fun K i => rfl⟩
set_option maxRecDepth 100000 in
theorem bn_X_36_19 : Bn "VillageMail" 36 19 := ⟨2, "VillageMail$Letter", T_L, ty_L, [.int 0, .int 0, .int 0, .int 0, .int 0, .int 0, .int 0, .int 0, .int 0, .int 0, .null], rfl, in_L, tk_L, wa_at (i := 136) (by decide +kernel) rfl, wa_at (i := 138) (by decide +kernel) rfl, wa_at (i := 7) (by decide +kernel) rfl, by decide +kernel, fun K i => rfl⟩
set_option maxRecDepth 100000 in
theorem bn_X_47_22 : Bn "VillageMail" 47 22 := ⟨4, "VillageMail$Ride", T_R, ty_R, [.null, .null, .null], rfl, in_R, tk_R, wa_at (i := 178) (by decide +kernel) rfl, wa_at (i := 179) (by decide +kernel) rfl, wa_at (i := 8) (by decide +kernel) rfl, by decide +kernel, fun K i => rfl⟩
set_option maxRecDepth 100000 in
theorem bn_X_57_26 : Bn "VillageMail" 57 26 := ⟨3, "VillageMail$Offers", T_O, ty_O, [.null, .int 0], rfl, in_O, tk_O, wa_at (i := 196) (by decide +kernel) rfl, wa_at (i := 197) (by decide +kernel) rfl, wa_at (i := 9) (by decide +kernel) rfl, by decide +kernel, fun K i => rfl⟩
set_option maxRecDepth 100000 in
theorem bn_X_9_1 : Bn "VillageMail" 9 1 := ⟨6, "VillageMail$Timetable", T_T, ty_T, [.null, .null, .null, .int 0], rfl, in_T, tk_T, wa_at (i := 28) (by decide +kernel) rfl, wa_at (i := 29) (by decide +kernel) rfl, wa_at (i := 2) (by decide +kernel) rfl, by decide +kernel, fun K i => rfl⟩
theorem bq_C_9_14 : Bq "VillageMail$Boxes" 9 14 3 6 "VillageMail$Box" := ⟨rfl, wa_at (i := 104) (by decide +kernel) rfl, by decide +kernel, fun _ => rfl, fun K i => rfl⟩
theorem bq_X_20_6 : Bq "VillageMail" 20 6 12 4 "VillageMail$Store" := ⟨rfl, wa_at (i := 54) (by decide +kernel) rfl, by decide +kernel, fun _ => rfl, fun K i => rfl⟩
theorem bq_X_29_12 : Bq "VillageMail" 29 12 8 5 "VillageMail$Boxes" := ⟨rfl, wa_at (i := 97) (by decide +kernel) rfl, by decide +kernel, fun _ => rfl, fun K i => rfl⟩
theorem bq_X_36_18 : Bq "VillageMail" 36 18 16 7 "VillageMail$Letter" := ⟨rfl, wa_at (i := 136) (by decide +kernel) rfl, by decide +kernel, fun _ => rfl, fun K i => rfl⟩
theorem bq_X_9_5 : Bq "VillageMail" 9 5 7 3 "VillageMail$Timetable" := ⟨rfl, wa_at (i := 28) (by decide +kernel) rfl, by decide +kernel, fun _ => rfl, fun K i => rfl⟩
theorem ci_C_17 : CsI "VillageMail$Boxes" 17 y_B_init b_B_init 1 0 := ⟨wa_at (i := 107) (by decide +kernel) rfl, wa_at (i := 108) (by decide +kernel) rfl, wa_at (i := 6) (by decide +kernel) rfl, wa_at (i := 109) (by decide +kernel) rfl, rfl, by decide +kernel, by decide +kernel, by decide +kernel⟩
theorem ci_X_11 : CsI "VillageMail" 11 y_T_init b_T_init 1 0 := ⟨wa_at (i := 30) (by decide +kernel) rfl, wa_at (i := 31) (by decide +kernel) rfl, wa_at (i := 2) (by decide +kernel) rfl, wa_at (i := 32) (by decide +kernel) rfl, rfl, by decide +kernel, by decide +kernel, by decide +kernel⟩
theorem ci_X_26 : CsI "VillageMail" 26 y_S_init b_S_init 2 1 := ⟨wa_at (i := 57) (by decide +kernel) rfl, wa_at (i := 58) (by decide +kernel) rfl, wa_at (i := 3) (by decide +kernel) rfl, wa_at (i := 59) (by decide +kernel) rfl, rfl, by decide +kernel, by decide +kernel, by decide +kernel⟩
theorem ci_X_35 : CsI "VillageMail" 35 y_C_init b_C_init 2 0 := ⟨wa_at (i := 100) (by decide +kernel) rfl, wa_at (i := 101) (by decide +kernel) rfl, wa_at (i := 5) (by decide +kernel) rfl, wa_at (i := 102) (by decide +kernel) rfl, rfl, by decide +kernel, by decide +kernel, by decide +kernel⟩
theorem ci_X_42 : CsI "VillageMail" 42 y_L_init b_L_init 1 0 := ⟨wa_at (i := 139) (by decide +kernel) rfl, wa_at (i := 140) (by decide +kernel) rfl, wa_at (i := 7) (by decide +kernel) rfl, wa_at (i := 141) (by decide +kernel) rfl, rfl, by decide +kernel, by decide +kernel, by decide +kernel⟩
theorem ci_X_49 : CsI "VillageMail" 49 y_R_init b_R_init 1 0 := ⟨wa_at (i := 180) (by decide +kernel) rfl, wa_at (i := 181) (by decide +kernel) rfl, wa_at (i := 8) (by decide +kernel) rfl, wa_at (i := 182) (by decide +kernel) rfl, rfl, by decide +kernel, by decide +kernel, by decide +kernel⟩
theorem ci_X_59 : CsI "VillageMail" 59 y_O_init b_O_init 1 0 := ⟨wa_at (i := 198) (by decide +kernel) rfl, wa_at (i := 199) (by decide +kernel) rfl, wa_at (i := 9) (by decide +kernel) rfl, wa_at (i := 200) (by decide +kernel) rfl, rfl, by decide +kernel, by decide +kernel, by decide +kernel⟩
theorem fi_B_15 : FiB "VillageMail$Box" 15 16 3 false := ⟨0, "VillageMail$Box", T_B, 4, ty_B, rfl, by decide, in_B, wa_at (i := 117) (by decide +kernel) rfl, fun K i r z => ⟨_, rfl, Nat.le_of_ble_eq_true rfl, fun v => rfl⟩, tk_B, nm_B, rfl, rfl, by decide +kernel⟩
theorem fi_S_9 : FiB "VillageMail$Store" 9 7 0 true := ⟨5, "VillageMail$Store", T_S, 9, ty_S, rfl, by decide, in_S, wa_at (i := 64) (by decide +kernel) rfl, fun K i r z => ⟨_, rfl, Nat.le_of_ble_eq_true rfl, fun v => rfl⟩, tk_S, nm_S, rfl, rfl, by decide +kernel⟩
theorem fr_B_9 : FrB "VillageMail$Box" 9 16 0 17 (fun i => i) (.array .int) := ⟨0, "VillageMail$Box", T_B, 4, ty_B, rfl, by decide, in_B, wa_at (i := 111) (by decide +kernel) rfl, fun K i r z => ⟨_, rfl, rfl, Nat.le_of_ble_eq_true rfl, rfl⟩, tk_B, nm_B, rfl, rfl, by decide +kernel, fun _ => ⟨rfl, rfl⟩⟩
theorem fr_C_11 : FrB "VillageMail$Boxes" 11 13 0 14 (fun i => i) (.array (.object "VillageMail$Box")) := ⟨1, "VillageMail$Boxes", T_C, 2, ty_C, rfl, by decide, in_C, wa_at (i := 128) (by decide +kernel) rfl, fun K i r z => ⟨_, rfl, rfl, Nat.le_of_ble_eq_true rfl, rfl⟩, tk_C, nm_C, rfl, rfl, by decide +kernel, fun _ => ⟨rfl, rfl⟩⟩
theorem fr_C_18 : FrB "VillageMail$Boxes" 18 13 1 15 (fun i => i) (.array .int) := ⟨1, "VillageMail$Boxes", T_C, 2, ty_C, rfl, by decide, in_C, wa_at (i := 130) (by decide +kernel) rfl, fun K i r z => ⟨_, rfl, rfl, Nat.le_of_ble_eq_true rfl, rfl⟩, tk_C, nm_C, rfl, rfl, by decide +kernel, fun _ => ⟨rfl, rfl⟩⟩
theorem fr_L_9 : FrB "VillageMail$Letter" 9 19 10 20 (fun i => i) (.array .long) := ⟨2, "VillageMail$Letter", T_L, 11, ty_L, rfl, by decide, in_L, wa_at (i := 153) (by decide +kernel) rfl, fun K i r z => ⟨_, rfl, rfl, Nat.le_of_ble_eq_true rfl, rfl⟩, tk_L, nm_L, rfl, rfl, by decide +kernel, fun _ => ⟨rfl, rfl⟩⟩
theorem fr_M_101 : FrB "VillageMailModel" 101 30 37 61 (fun i => 0) (.array .int) := ⟨8, "VillageMailModel", T_M, 38, ty_M, rfl, by decide, in_M, wa_at (i := 770) (by decide +kernel) rfl, fun K i r z => ⟨_, rfl, rfl, Nat.le_of_ble_eq_true rfl, rfl⟩, tk_M, nm_M, rfl, rfl, by decide +kernel, fun _ => ⟨rfl, rfl⟩⟩
theorem fr_M_13 : FrB "VillageMailModel" 13 30 1 32 (fun i => 0) (.array .int) := ⟨8, "VillageMailModel", T_M, 38, ty_M, rfl, by decide, in_M, wa_at (i := 734) (by decide +kernel) rfl, fun K i r z => ⟨_, rfl, rfl, Nat.le_of_ble_eq_true rfl, rfl⟩, tk_M, nm_M, rfl, rfl, by decide +kernel, fun _ => ⟨rfl, rfl⟩⟩
theorem fr_M_16 : FrB "VillageMailModel" 16 30 2 33 (fun i => 0) (.array .int) := ⟨8, "VillageMailModel", T_M, 38, ty_M, rfl, by decide, in_M, wa_at (i := 735) (by decide +kernel) rfl, fun K i r z => ⟨_, rfl, rfl, Nat.le_of_ble_eq_true rfl, rfl⟩, tk_M, nm_M, rfl, rfl, by decide +kernel, fun _ => ⟨rfl, rfl⟩⟩
theorem fr_M_19 : FrB "VillageMailModel" 19 30 3 34 (fun i => 0) (.array .int) := ⟨8, "VillageMailModel", T_M, 38, ty_M, rfl, by decide, in_M, wa_at (i := 736) (by decide +kernel) rfl, fun K i r z => ⟨_, rfl, rfl, Nat.le_of_ble_eq_true rfl, rfl⟩, tk_M, nm_M, rfl, rfl, by decide +kernel, fun _ => ⟨rfl, rfl⟩⟩
theorem fr_M_22 : FrB "VillageMailModel" 22 30 6 35 (fun i => 0) (.array .int) := ⟨8, "VillageMailModel", T_M, 38, ty_M, rfl, by decide, in_M, wa_at (i := 739) (by decide +kernel) rfl, fun K i r z => ⟨_, rfl, rfl, Nat.le_of_ble_eq_true rfl, rfl⟩, tk_M, nm_M, rfl, rfl, by decide +kernel, fun _ => ⟨rfl, rfl⟩⟩
theorem fr_M_25 : FrB "VillageMailModel" 25 30 8 36 (fun i => 0) (.array .int) := ⟨8, "VillageMailModel", T_M, 38, ty_M, rfl, by decide, in_M, wa_at (i := 741) (by decide +kernel) rfl, fun K i r z => ⟨_, rfl, rfl, Nat.le_of_ble_eq_true rfl, rfl⟩, tk_M, nm_M, rfl, rfl, by decide +kernel, fun _ => ⟨rfl, rfl⟩⟩
theorem fr_M_28 : FrB "VillageMailModel" 28 30 9 37 (fun i => 0) (.array .int) := ⟨8, "VillageMailModel", T_M, 38, ty_M, rfl, by decide, in_M, wa_at (i := 742) (by decide +kernel) rfl, fun K i r z => ⟨_, rfl, rfl, Nat.le_of_ble_eq_true rfl, rfl⟩, tk_M, nm_M, rfl, rfl, by decide +kernel, fun _ => ⟨rfl, rfl⟩⟩
theorem fr_M_31 : FrB "VillageMailModel" 31 30 10 38 (fun i => 0) (.array .int) := ⟨8, "VillageMailModel", T_M, 38, ty_M, rfl, by decide, in_M, wa_at (i := 743) (by decide +kernel) rfl, fun K i r z => ⟨_, rfl, rfl, Nat.le_of_ble_eq_true rfl, rfl⟩, tk_M, nm_M, rfl, rfl, by decide +kernel, fun _ => ⟨rfl, rfl⟩⟩
theorem fr_M_34 : FrB "VillageMailModel" 34 30 11 39 (fun i => 0) (.array .int) := ⟨8, "VillageMailModel", T_M, 38, ty_M, rfl, by decide, in_M, wa_at (i := 744) (by decide +kernel) rfl, fun K i r z => ⟨_, rfl, rfl, Nat.le_of_ble_eq_true rfl, rfl⟩, tk_M, nm_M, rfl, rfl, by decide +kernel, fun _ => ⟨rfl, rfl⟩⟩
theorem fr_M_37 : FrB "VillageMailModel" 37 30 12 40 (fun i => 0) (.array .int) := ⟨8, "VillageMailModel", T_M, 38, ty_M, rfl, by decide, in_M, wa_at (i := 745) (by decide +kernel) rfl, fun K i r z => ⟨_, rfl, rfl, Nat.le_of_ble_eq_true rfl, rfl⟩, tk_M, nm_M, rfl, rfl, by decide +kernel, fun _ => ⟨rfl, rfl⟩⟩
theorem fr_M_40 : FrB "VillageMailModel" 40 30 13 41 (fun i => 0) (.array .int) := ⟨8, "VillageMailModel", T_M, 38, ty_M, rfl, by decide, in_M, wa_at (i := 746) (by decide +kernel) rfl, fun K i r z => ⟨_, rfl, rfl, Nat.le_of_ble_eq_true rfl, rfl⟩, tk_M, nm_M, rfl, rfl, by decide +kernel, fun _ => ⟨rfl, rfl⟩⟩
theorem fr_M_43 : FrB "VillageMailModel" 43 30 14 42 (fun i => 0) (.array .int) := ⟨8, "VillageMailModel", T_M, 38, ty_M, rfl, by decide, in_M, wa_at (i := 747) (by decide +kernel) rfl, fun K i r z => ⟨_, rfl, rfl, Nat.le_of_ble_eq_true rfl, rfl⟩, tk_M, nm_M, rfl, rfl, by decide +kernel, fun _ => ⟨rfl, rfl⟩⟩
theorem fr_M_46 : FrB "VillageMailModel" 46 30 15 43 (fun i => 0) (.array .int) := ⟨8, "VillageMailModel", T_M, 38, ty_M, rfl, by decide, in_M, wa_at (i := 748) (by decide +kernel) rfl, fun K i r z => ⟨_, rfl, rfl, Nat.le_of_ble_eq_true rfl, rfl⟩, tk_M, nm_M, rfl, rfl, by decide +kernel, fun _ => ⟨rfl, rfl⟩⟩
theorem fr_M_49 : FrB "VillageMailModel" 49 30 16 44 (fun i => 0) (.array .boolean) := ⟨8, "VillageMailModel", T_M, 38, ty_M, rfl, by decide, in_M, wa_at (i := 749) (by decide +kernel) rfl, fun K i r z => ⟨_, rfl, rfl, Nat.le_of_ble_eq_true rfl, rfl⟩, tk_M, nm_M, rfl, rfl, by decide +kernel, fun _ => ⟨rfl, rfl⟩⟩
theorem fr_M_53 : FrB "VillageMailModel" 53 30 17 45 (fun i => 0) (.array .int) := ⟨8, "VillageMailModel", T_M, 38, ty_M, rfl, by decide, in_M, wa_at (i := 750) (by decide +kernel) rfl, fun K i r z => ⟨_, rfl, rfl, Nat.le_of_ble_eq_true rfl, rfl⟩, tk_M, nm_M, rfl, rfl, by decide +kernel, fun _ => ⟨rfl, rfl⟩⟩
theorem fr_M_56 : FrB "VillageMailModel" 56 30 18 46 (fun i => 0) (.array .boolean) := ⟨8, "VillageMailModel", T_M, 38, ty_M, rfl, by decide, in_M, wa_at (i := 751) (by decide +kernel) rfl, fun K i r z => ⟨_, rfl, rfl, Nat.le_of_ble_eq_true rfl, rfl⟩, tk_M, nm_M, rfl, rfl, by decide +kernel, fun _ => ⟨rfl, rfl⟩⟩
theorem fr_M_59 : FrB "VillageMailModel" 59 30 19 47 (fun i => 0) (.array .int) := ⟨8, "VillageMailModel", T_M, 38, ty_M, rfl, by decide, in_M, wa_at (i := 752) (by decide +kernel) rfl, fun K i r z => ⟨_, rfl, rfl, Nat.le_of_ble_eq_true rfl, rfl⟩, tk_M, nm_M, rfl, rfl, by decide +kernel, fun _ => ⟨rfl, rfl⟩⟩
theorem fr_M_62 : FrB "VillageMailModel" 62 30 20 48 (fun i => 0) (.array .int) := ⟨8, "VillageMailModel", T_M, 38, ty_M, rfl, by decide, in_M, wa_at (i := 753) (by decide +kernel) rfl, fun K i r z => ⟨_, rfl, rfl, Nat.le_of_ble_eq_true rfl, rfl⟩, tk_M, nm_M, rfl, rfl, by decide +kernel, fun _ => ⟨rfl, rfl⟩⟩
theorem fr_M_65 : FrB "VillageMailModel" 65 30 21 49 (fun i => 0) (.array .int) := ⟨8, "VillageMailModel", T_M, 38, ty_M, rfl, by decide, in_M, wa_at (i := 754) (by decide +kernel) rfl, fun K i r z => ⟨_, rfl, rfl, Nat.le_of_ble_eq_true rfl, rfl⟩, tk_M, nm_M, rfl, rfl, by decide +kernel, fun _ => ⟨rfl, rfl⟩⟩
theorem fr_M_68 : FrB "VillageMailModel" 68 30 22 50 (fun i => 0) (.array .int) := ⟨8, "VillageMailModel", T_M, 38, ty_M, rfl, by decide, in_M, wa_at (i := 755) (by decide +kernel) rfl, fun K i r z => ⟨_, rfl, rfl, Nat.le_of_ble_eq_true rfl, rfl⟩, tk_M, nm_M, rfl, rfl, by decide +kernel, fun _ => ⟨rfl, rfl⟩⟩
theorem fr_M_7 : FrB "VillageMailModel" 7 30 0 31 (fun i => 0) (.array .int) := ⟨8, "VillageMailModel", T_M, 38, ty_M, rfl, by decide, in_M, wa_at (i := 733) (by decide +kernel) rfl, fun K i r z => ⟨_, rfl, rfl, Nat.le_of_ble_eq_true rfl, rfl⟩, tk_M, nm_M, rfl, rfl, by decide +kernel, fun _ => ⟨rfl, rfl⟩⟩
theorem fr_M_71 : FrB "VillageMailModel" 71 30 23 51 (fun i => 0) (.array .int) := ⟨8, "VillageMailModel", T_M, 38, ty_M, rfl, by decide, in_M, wa_at (i := 756) (by decide +kernel) rfl, fun K i r z => ⟨_, rfl, rfl, Nat.le_of_ble_eq_true rfl, rfl⟩, tk_M, nm_M, rfl, rfl, by decide +kernel, fun _ => ⟨rfl, rfl⟩⟩
theorem fr_M_74 : FrB "VillageMailModel" 74 30 24 52 (fun i => 0) (.array .int) := ⟨8, "VillageMailModel", T_M, 38, ty_M, rfl, by decide, in_M, wa_at (i := 757) (by decide +kernel) rfl, fun K i r z => ⟨_, rfl, rfl, Nat.le_of_ble_eq_true rfl, rfl⟩, tk_M, nm_M, rfl, rfl, by decide +kernel, fun _ => ⟨rfl, rfl⟩⟩
theorem fr_M_77 : FrB "VillageMailModel" 77 30 25 53 (fun i => 0) (.array .int) := ⟨8, "VillageMailModel", T_M, 38, ty_M, rfl, by decide, in_M, wa_at (i := 758) (by decide +kernel) rfl, fun K i r z => ⟨_, rfl, rfl, Nat.le_of_ble_eq_true rfl, rfl⟩, tk_M, nm_M, rfl, rfl, by decide +kernel, fun _ => ⟨rfl, rfl⟩⟩
theorem fr_M_80 : FrB "VillageMailModel" 80 30 26 54 (fun i => 0) (.array .int) := ⟨8, "VillageMailModel", T_M, 38, ty_M, rfl, by decide, in_M, wa_at (i := 759) (by decide +kernel) rfl, fun K i r z => ⟨_, rfl, rfl, Nat.le_of_ble_eq_true rfl, rfl⟩, tk_M, nm_M, rfl, rfl, by decide +kernel, fun _ => ⟨rfl, rfl⟩⟩
theorem fr_M_83 : FrB "VillageMailModel" 83 30 27 55 (fun i => 0) (.array .int) := ⟨8, "VillageMailModel", T_M, 38, ty_M, rfl, by decide, in_M, wa_at (i := 760) (by decide +kernel) rfl, fun K i r z => ⟨_, rfl, rfl, Nat.le_of_ble_eq_true rfl, rfl⟩, tk_M, nm_M, rfl, rfl, by decide +kernel, fun _ => ⟨rfl, rfl⟩⟩
theorem fr_M_86 : FrB "VillageMailModel" 86 30 28 56 (fun i => 0) (.array .boolean) := ⟨8, "VillageMailModel", T_M, 38, ty_M, rfl, by decide, in_M, wa_at (i := 761) (by decide +kernel) rfl, fun K i r z => ⟨_, rfl, rfl, Nat.le_of_ble_eq_true rfl, rfl⟩, tk_M, nm_M, rfl, rfl, by decide +kernel, fun _ => ⟨rfl, rfl⟩⟩
theorem fr_M_89 : FrB "VillageMailModel" 89 30 29 57 (fun i => 0) (.array .int) := ⟨8, "VillageMailModel", T_M, 38, ty_M, rfl, by decide, in_M, wa_at (i := 762) (by decide +kernel) rfl, fun K i r z => ⟨_, rfl, rfl, Nat.le_of_ble_eq_true rfl, rfl⟩, tk_M, nm_M, rfl, rfl, by decide +kernel, fun _ => ⟨rfl, rfl⟩⟩
theorem fr_M_92 : FrB "VillageMailModel" 92 30 32 58 (fun i => 0) (.array .boolean) := ⟨8, "VillageMailModel", T_M, 38, ty_M, rfl, by decide, in_M, wa_at (i := 765) (by decide +kernel) rfl, fun K i r z => ⟨_, rfl, rfl, Nat.le_of_ble_eq_true rfl, rfl⟩, tk_M, nm_M, rfl, rfl, by decide +kernel, fun _ => ⟨rfl, rfl⟩⟩
theorem fr_M_95 : FrB "VillageMailModel" 95 30 33 59 (fun i => 0) (.array .int) := ⟨8, "VillageMailModel", T_M, 38, ty_M, rfl, by decide, in_M, wa_at (i := 766) (by decide +kernel) rfl, fun K i r z => ⟨_, rfl, rfl, Nat.le_of_ble_eq_true rfl, rfl⟩, tk_M, nm_M, rfl, rfl, by decide +kernel, fun _ => ⟨rfl, rfl⟩⟩
theorem fr_M_98 : FrB "VillageMailModel" 98 30 34 60 (fun i => 0) (.array .boolean) := ⟨8, "VillageMailModel", T_M, 38, ty_M, rfl, by decide, in_M, wa_at (i := 767) (by decide +kernel) rfl, fun K i r z => ⟨_, rfl, rfl, Nat.le_of_ble_eq_true rfl, rfl⟩, tk_M, nm_M, rfl, rfl, by decide +kernel, fun _ => ⟨rfl, rfl⟩⟩
theorem fr_O_9 : FrB "VillageMail$Offers" 9 26 0 27 (fun i => i) (.array .int) := ⟨3, "VillageMail$Offers", T_O, 2, ty_O, rfl, by decide, in_O, wa_at (i := 202) (by decide +kernel) rfl, fun K i r z => ⟨_, rfl, rfl, Nat.le_of_ble_eq_true rfl, rfl⟩, tk_O, nm_O, rfl, rfl, by decide +kernel, fun _ => ⟨rfl, rfl⟩⟩
theorem fr_R_15 : FrB "VillageMail$Ride" 15 22 1 24 (fun i => i) (.array .int) := ⟨4, "VillageMail$Ride", T_R, 3, ty_R, rfl, by decide, in_R, wa_at (i := 186) (by decide +kernel) rfl, fun K i r z => ⟨_, rfl, rfl, Nat.le_of_ble_eq_true rfl, rfl⟩, tk_R, nm_R, rfl, rfl, by decide +kernel, fun _ => ⟨rfl, rfl⟩⟩
theorem fr_R_18 : FrB "VillageMail$Ride" 18 22 2 25 (fun i => i) (.array .boolean) := ⟨4, "VillageMail$Ride", T_R, 3, ty_R, rfl, by decide, in_R, wa_at (i := 187) (by decide +kernel) rfl, fun K i r z => ⟨_, rfl, rfl, Nat.le_of_ble_eq_true rfl, rfl⟩, tk_R, nm_R, rfl, rfl, by decide +kernel, fun _ => ⟨rfl, rfl⟩⟩
theorem fr_R_9 : FrB "VillageMail$Ride" 9 22 0 23 (fun i => i) (.array .int) := ⟨4, "VillageMail$Ride", T_R, 3, ty_R, rfl, by decide, in_R, wa_at (i := 184) (by decide +kernel) rfl, fun K i r z => ⟨_, rfl, rfl, Nat.le_of_ble_eq_true rfl, rfl⟩, tk_R, nm_R, rfl, rfl, by decide +kernel, fun _ => ⟨rfl, rfl⟩⟩
theorem fr_S_15 : FrB "VillageMail$Store" 15 7 1 8 (fun i => i) (.array .int) := ⟨5, "VillageMail$Store", T_S, 9, ty_S, rfl, by decide, in_S, wa_at (i := 65) (by decide +kernel) rfl, fun K i r z => ⟨_, rfl, rfl, Nat.le_of_ble_eq_true rfl, rfl⟩, tk_S, nm_S, rfl, rfl, by decide +kernel, fun _ => ⟨rfl, rfl⟩⟩
theorem fr_S_25 : FrB "VillageMail$Store" 25 7 2 9 (fun i => i) (.array .int) := ⟨5, "VillageMail$Store", T_S, 9, ty_S, rfl, by decide, in_S, wa_at (i := 67) (by decide +kernel) rfl, fun K i r z => ⟨_, rfl, rfl, Nat.le_of_ble_eq_true rfl, rfl⟩, tk_S, nm_S, rfl, rfl, by decide +kernel, fun _ => ⟨rfl, rfl⟩⟩
theorem fr_S_28 : FrB "VillageMail$Store" 28 7 3 10 (fun i => i) (.array .long) := ⟨5, "VillageMail$Store", T_S, 9, ty_S, rfl, by decide, in_S, wa_at (i := 69) (by decide +kernel) rfl, fun K i r z => ⟨_, rfl, rfl, Nat.le_of_ble_eq_true rfl, rfl⟩, tk_S, nm_S, rfl, rfl, by decide +kernel, fun _ => ⟨rfl, rfl⟩⟩
theorem fr_S_32 : FrB "VillageMail$Store" 32 7 4 11 (fun i => i) (.array .int) := ⟨5, "VillageMail$Store", T_S, 9, ty_S, rfl, by decide, in_S, wa_at (i := 71) (by decide +kernel) rfl, fun K i r z => ⟨_, rfl, rfl, Nat.le_of_ble_eq_true rfl, rfl⟩, tk_S, nm_S, rfl, rfl, by decide +kernel, fun _ => ⟨rfl, rfl⟩⟩
theorem fr_T_15 : FrB "VillageMail$Timetable" 15 1 1 3 (fun i => i) (.array .int) := ⟨6, "VillageMail$Timetable", T_T, 4, ty_T, rfl, by decide, in_T, wa_at (i := 36) (by decide +kernel) rfl, fun K i r z => ⟨_, rfl, rfl, Nat.le_of_ble_eq_true rfl, rfl⟩, tk_T, nm_T, rfl, rfl, by decide +kernel, fun _ => ⟨rfl, rfl⟩⟩
theorem fr_T_18 : FrB "VillageMail$Timetable" 18 1 2 4 (fun i => i) (.array .int) := ⟨6, "VillageMail$Timetable", T_T, 4, ty_T, rfl, by decide, in_T, wa_at (i := 38) (by decide +kernel) rfl, fun K i r z => ⟨_, rfl, rfl, Nat.le_of_ble_eq_true rfl, rfl⟩, tk_T, nm_T, rfl, rfl, by decide +kernel, fun _ => ⟨rfl, rfl⟩⟩
theorem fr_T_9 : FrB "VillageMail$Timetable" 9 1 0 2 (fun i => i) (.array .int) := ⟨6, "VillageMail$Timetable", T_T, 4, ty_T, rfl, by decide, in_T, wa_at (i := 34) (by decide +kernel) rfl, fun K i r z => ⟨_, rfl, rfl, Nat.le_of_ble_eq_true rfl, rfl⟩, tk_T, nm_T, rfl, rfl, by decide +kernel, fun _ => ⟨rfl, rfl⟩⟩
theorem fr_X_12 : FrB "VillageMail" 12 0 1 1 (fun i => 7) (.object "VillageMail$Timetable") := ⟨7, "VillageMail", T_X, 16, ty_X, rfl, by decide, in_X, wa_at (i := 212) (by decide +kernel) rfl, fun K i r z => ⟨_, rfl, rfl, Nat.le_of_ble_eq_true rfl, rfl⟩, tk_X, nm_X, rfl, rfl, by decide +kernel, fun _ => ⟨rfl, rfl⟩⟩
theorem fr_X_16 : FrB "VillageMail" 16 0 2 5 (fun i => 0) (.array (.object "VillageMail$Timetable")) := ⟨7, "VillageMail", T_X, 16, ty_X, rfl, by decide, in_X, wa_at (i := 213) (by decide +kernel) rfl, fun K i r z => ⟨_, rfl, rfl, Nat.le_of_ble_eq_true rfl, rfl⟩, tk_X, nm_X, rfl, rfl, by decide +kernel, fun _ => ⟨rfl, rfl⟩⟩
theorem fr_X_22 : FrB "VillageMail" 22 0 4 6 (fun i => 0) (.array (.object "VillageMail$Store")) := ⟨7, "VillageMail", T_X, 16, ty_X, rfl, by decide, in_X, wa_at (i := 215) (by decide +kernel) rfl, fun K i r z => ⟨_, rfl, rfl, Nat.le_of_ble_eq_true rfl, rfl⟩, tk_X, nm_X, rfl, rfl, by decide +kernel, fun _ => ⟨rfl, rfl⟩⟩
theorem fr_X_31 : FrB "VillageMail" 31 0 5 12 (fun i => 0) (.array (.object "VillageMail$Boxes")) := ⟨7, "VillageMail", T_X, 16, ty_X, rfl, by decide, in_X, wa_at (i := 216) (by decide +kernel) rfl, fun K i r z => ⟨_, rfl, rfl, Nat.le_of_ble_eq_true rfl, rfl⟩, tk_X, nm_X, rfl, rfl, by decide +kernel, fun _ => ⟨rfl, rfl⟩⟩
theorem fr_X_38 : FrB "VillageMail" 38 0 6 18 (fun i => 0) (.array (.object "VillageMail$Letter")) := ⟨7, "VillageMail", T_X, 16, ty_X, rfl, by decide, in_X, wa_at (i := 217) (by decide +kernel) rfl, fun K i r z => ⟨_, rfl, rfl, Nat.le_of_ble_eq_true rfl, rfl⟩, tk_X, nm_X, rfl, rfl, by decide +kernel, fun _ => ⟨rfl, rfl⟩⟩
theorem fr_X_43 : FrB "VillageMail" 43 0 8 21 (fun i => 0) (.array .long) := ⟨7, "VillageMail", T_X, 16, ty_X, rfl, by decide, in_X, wa_at (i := 219) (by decide +kernel) rfl, fun K i r z => ⟨_, rfl, rfl, Nat.le_of_ble_eq_true rfl, rfl⟩, tk_X, nm_X, rfl, rfl, by decide +kernel, fun _ => ⟨rfl, rfl⟩⟩
theorem fr_X_50 : FrB "VillageMail" 50 0 10 22 (fun i => 0) (.object "VillageMail$Ride") := ⟨7, "VillageMail", T_X, 16, ty_X, rfl, by decide, in_X, wa_at (i := 221) (by decide +kernel) rfl, fun K i r z => ⟨_, rfl, rfl, Nat.le_of_ble_eq_true rfl, rfl⟩, tk_X, nm_X, rfl, rfl, by decide +kernel, fun _ => ⟨rfl, rfl⟩⟩
theorem fr_X_54 : FrB "VillageMail" 54 0 11 22 (fun i => 1) (.object "VillageMail$Ride") := ⟨7, "VillageMail", T_X, 16, ty_X, rfl, by decide, in_X, wa_at (i := 222) (by decide +kernel) rfl, fun K i r z => ⟨_, rfl, rfl, Nat.le_of_ble_eq_true rfl, rfl⟩, tk_X, nm_X, rfl, rfl, by decide +kernel, fun _ => ⟨rfl, rfl⟩⟩
theorem fr_X_60 : FrB "VillageMail" 60 0 12 26 (fun i => 0) (.object "VillageMail$Offers") := ⟨7, "VillageMail", T_X, 16, ty_X, rfl, by decide, in_X, wa_at (i := 223) (by decide +kernel) rfl, fun K i r z => ⟨_, rfl, rfl, Nat.le_of_ble_eq_true rfl, rfl⟩, tk_X, nm_X, rfl, rfl, by decide +kernel, fun _ => ⟨rfl, rfl⟩⟩
theorem fr_X_64 : FrB "VillageMail" 64 0 13 26 (fun i => 1) (.object "VillageMail$Offers") := ⟨7, "VillageMail", T_X, 16, ty_X, rfl, by decide, in_X, wa_at (i := 224) (by decide +kernel) rfl, fun K i r z => ⟨_, rfl, rfl, Nat.le_of_ble_eq_true rfl, rfl⟩, tk_X, nm_X, rfl, rfl, by decide +kernel, fun _ => ⟨rfl, rfl⟩⟩
theorem oi_B_3 : Oi "VillageMail$Box" 3 := ⟨wa_at (i := 110) (by decide +kernel) rfl, wa_at (i := 26) (by decide +kernel) rfl, wa_at (i := 27) (by decide +kernel) rfl⟩
theorem oi_C_3 : Oi "VillageMail$Boxes" 3 := ⟨wa_at (i := 103) (by decide +kernel) rfl, wa_at (i := 26) (by decide +kernel) rfl, wa_at (i := 27) (by decide +kernel) rfl⟩
theorem oi_L_3 : Oi "VillageMail$Letter" 3 := ⟨wa_at (i := 142) (by decide +kernel) rfl, wa_at (i := 26) (by decide +kernel) rfl, wa_at (i := 27) (by decide +kernel) rfl⟩
theorem oi_M_1 : Oi "VillageMailModel" 1 := ⟨wa_at (i := 732) (by decide +kernel) rfl, wa_at (i := 26) (by decide +kernel) rfl, wa_at (i := 27) (by decide +kernel) rfl⟩
theorem oi_O_3 : Oi "VillageMail$Offers" 3 := ⟨wa_at (i := 201) (by decide +kernel) rfl, wa_at (i := 26) (by decide +kernel) rfl, wa_at (i := 27) (by decide +kernel) rfl⟩
theorem oi_R_3 : Oi "VillageMail$Ride" 3 := ⟨wa_at (i := 183) (by decide +kernel) rfl, wa_at (i := 26) (by decide +kernel) rfl, wa_at (i := 27) (by decide +kernel) rfl⟩
theorem oi_S_3 : Oi "VillageMail$Store" 3 := ⟨wa_at (i := 60) (by decide +kernel) rfl, wa_at (i := 26) (by decide +kernel) rfl, wa_at (i := 27) (by decide +kernel) rfl⟩
theorem oi_T_3 : Oi "VillageMail$Timetable" 3 := ⟨wa_at (i := 33) (by decide +kernel) rfl, wa_at (i := 26) (by decide +kernel) rfl, wa_at (i := 27) (by decide +kernel) rfl⟩
theorem oi_X_3 : Oi "VillageMail" 3 := ⟨wa_at (i := 25) (by decide +kernel) rfl, wa_at (i := 26) (by decide +kernel) rfl, wa_at (i := 27) (by decide +kernel) rfl⟩
theorem d_T_init_0 : decode b_T_init 0 = .ok (.aload_n 0, 1) := by decide +kernel
theorem d_T_init_1 : decode b_T_init 1 = .ok (.invokespecial 3, 3) := by decide +kernel
theorem d_T_init_4 : decode b_T_init 4 = .ok (.aload_n 0, 1) := by decide +kernel
theorem d_T_init_5 : decode b_T_init 5 = .ok (.bipush 24, 2) := by decide +kernel
theorem d_T_init_7 : decode b_T_init 7 = .ok (.newarray .int, 2) := by decide +kernel
theorem d_T_init_9 : decode b_T_init 9 = .ok (.putfield 9, 3) := by decide +kernel
theorem d_T_init_12 : decode b_T_init 12 = .ok (.aload_n 0, 1) := by decide +kernel
theorem d_T_init_13 : decode b_T_init 13 = .ok (.bipush 24, 2) := by decide +kernel
theorem d_T_init_15 : decode b_T_init 15 = .ok (.newarray .int, 2) := by decide +kernel
theorem d_T_init_17 : decode b_T_init 17 = .ok (.putfield 15, 3) := by decide +kernel
theorem d_T_init_20 : decode b_T_init 20 = .ok (.aload_n 0, 1) := by decide +kernel
theorem d_T_init_21 : decode b_T_init 21 = .ok (.bipush 24, 2) := by decide +kernel
theorem d_T_init_23 : decode b_T_init 23 = .ok (.newarray .int, 2) := by decide +kernel
theorem d_T_init_25 : decode b_T_init 25 = .ok (.putfield 18, 3) := by decide +kernel
theorem d_T_init_28 : decode b_T_init 28 = .ok (.return_, 1) := by decide +kernel
theorem d_S_init_0 : decode b_S_init 0 = .ok (.aload_n 0, 1) := by decide +kernel
theorem d_S_init_1 : decode b_S_init 1 = .ok (.invokespecial 3, 3) := by decide +kernel
theorem d_S_init_4 : decode b_S_init 4 = .ok (.aload_n 0, 1) := by decide +kernel
theorem d_S_init_5 : decode b_S_init 5 = .ok (.iload_n 1, 1) := by decide +kernel
theorem d_S_init_6 : decode b_S_init 6 = .ok (.putfield 9, 3) := by decide +kernel
theorem d_S_init_9 : decode b_S_init 9 = .ok (.aload_n 0, 1) := by decide +kernel
theorem d_S_init_10 : decode b_S_init 10 = .ok (.bipush 64, 2) := by decide +kernel
theorem d_S_init_12 : decode b_S_init 12 = .ok (.newarray .int, 2) := by decide +kernel
theorem d_S_init_14 : decode b_S_init 14 = .ok (.putfield 15, 3) := by decide +kernel
theorem d_S_init_17 : decode b_S_init 17 = .ok (.aload_n 0, 1) := by decide +kernel
theorem d_S_init_18 : decode b_S_init 18 = .ok (.getfield 15, 3) := by decide +kernel
theorem d_S_init_21 : decode b_S_init 21 = .ok (.iconst (-1), 1) := by decide +kernel
theorem d_S_init_22 : decode b_S_init 22 = .ok (.invokestatic 19, 3) := by decide +kernel
theorem d_S_init_25 : decode b_S_init 25 = .ok (.aload_n 0, 1) := by decide +kernel
theorem d_S_init_26 : decode b_S_init 26 = .ok (.bipush 64, 2) := by decide +kernel
theorem d_S_init_28 : decode b_S_init 28 = .ok (.newarray .int, 2) := by decide +kernel
theorem d_S_init_30 : decode b_S_init 30 = .ok (.putfield 25, 3) := by decide +kernel
theorem d_S_init_33 : decode b_S_init 33 = .ok (.aload_n 0, 1) := by decide +kernel
theorem d_S_init_34 : decode b_S_init 34 = .ok (.bipush 64, 2) := by decide +kernel
theorem d_S_init_36 : decode b_S_init 36 = .ok (.newarray .long, 2) := by decide +kernel
theorem d_S_init_38 : decode b_S_init 38 = .ok (.putfield 28, 3) := by decide +kernel
theorem d_S_init_41 : decode b_S_init 41 = .ok (.aload_n 0, 1) := by decide +kernel
theorem d_S_init_42 : decode b_S_init 42 = .ok (.bipush 16, 2) := by decide +kernel
theorem d_S_init_44 : decode b_S_init 44 = .ok (.newarray .int, 2) := by decide +kernel
theorem d_S_init_46 : decode b_S_init 46 = .ok (.putfield 32, 3) := by decide +kernel
theorem d_S_init_49 : decode b_S_init 49 = .ok (.return_, 1) := by decide +kernel
theorem d_B_init_0 : decode b_B_init 0 = .ok (.aload_n 0, 1) := by decide +kernel
theorem d_B_init_1 : decode b_B_init 1 = .ok (.invokespecial 3, 3) := by decide +kernel
theorem d_B_init_4 : decode b_B_init 4 = .ok (.aload_n 0, 1) := by decide +kernel
theorem d_B_init_5 : decode b_B_init 5 = .ok (.bipush 16, 2) := by decide +kernel
theorem d_B_init_7 : decode b_B_init 7 = .ok (.newarray .int, 2) := by decide +kernel
theorem d_B_init_9 : decode b_B_init 9 = .ok (.putfield 9, 3) := by decide +kernel
theorem d_B_init_12 : decode b_B_init 12 = .ok (.aload_n 0, 1) := by decide +kernel
theorem d_B_init_13 : decode b_B_init 13 = .ok (.iconst (-1), 1) := by decide +kernel
theorem d_B_init_14 : decode b_B_init 14 = .ok (.putfield 15, 3) := by decide +kernel
theorem d_B_init_17 : decode b_B_init 17 = .ok (.return_, 1) := by decide +kernel
theorem d_C_init_0 : decode b_C_init 0 = .ok (.aload_n 0, 1) := by decide +kernel
theorem d_C_init_1 : decode b_C_init 1 = .ok (.invokespecial 3, 3) := by decide +kernel
theorem d_C_init_4 : decode b_C_init 4 = .ok (.aload_n 0, 1) := by decide +kernel
theorem d_C_init_5 : decode b_C_init 5 = .ok (.iconst 3, 1) := by decide +kernel
theorem d_C_init_6 : decode b_C_init 6 = .ok (.anewarray 9, 3) := by decide +kernel
theorem d_C_init_9 : decode b_C_init 9 = .ok (.putfield 11, 3) := by decide +kernel
theorem d_C_init_12 : decode b_C_init 12 = .ok (.iconst 0, 1) := by decide +kernel
theorem d_C_init_13 : decode b_C_init 13 = .ok (.istore_n 1, 1) := by decide +kernel
theorem d_C_init_14 : decode b_C_init 14 = .ok (.iload_n 1, 1) := by decide +kernel
theorem d_C_init_15 : decode b_C_init 15 = .ok (.iconst 3, 1) := by decide +kernel
theorem d_C_init_16 : decode b_C_init 16 = .ok (.if_icmp .ge 22, 3) := by decide +kernel
theorem d_C_init_19 : decode b_C_init 19 = .ok (.aload_n 0, 1) := by decide +kernel
theorem d_C_init_20 : decode b_C_init 20 = .ok (.getfield 11, 3) := by decide +kernel
theorem d_C_init_23 : decode b_C_init 23 = .ok (.iload_n 1, 1) := by decide +kernel
theorem d_C_init_24 : decode b_C_init 24 = .ok (.new 9, 3) := by decide +kernel
theorem d_C_init_27 : decode b_C_init 27 = .ok (.dup, 1) := by decide +kernel
theorem d_C_init_28 : decode b_C_init 28 = .ok (.invokespecial 17, 3) := by decide +kernel
theorem d_C_init_31 : decode b_C_init 31 = .ok (.aastore, 1) := by decide +kernel
theorem d_C_init_32 : decode b_C_init 32 = .ok (.iinc 1 1, 3) := by decide +kernel
theorem d_C_init_35 : decode b_C_init 35 = .ok (.goto (-21), 3) := by decide +kernel
theorem d_C_init_38 : decode b_C_init 38 = .ok (.aload_n 0, 1) := by decide +kernel
theorem d_C_init_39 : decode b_C_init 39 = .ok (.iconst 2, 1) := by decide +kernel
theorem d_C_init_40 : decode b_C_init 40 = .ok (.newarray .int, 2) := by decide +kernel
theorem d_C_init_42 : decode b_C_init 42 = .ok (.putfield 18, 3) := by decide +kernel
theorem d_C_init_45 : decode b_C_init 45 = .ok (.return_, 1) := by decide +kernel
theorem d_L_init_0 : decode b_L_init 0 = .ok (.aload_n 0, 1) := by decide +kernel
theorem d_L_init_1 : decode b_L_init 1 = .ok (.invokespecial 3, 3) := by decide +kernel
theorem d_L_init_4 : decode b_L_init 4 = .ok (.aload_n 0, 1) := by decide +kernel
theorem d_L_init_5 : decode b_L_init 5 = .ok (.iconst 4, 1) := by decide +kernel
theorem d_L_init_6 : decode b_L_init 6 = .ok (.newarray .long, 2) := by decide +kernel
theorem d_L_init_8 : decode b_L_init 8 = .ok (.putfield 9, 3) := by decide +kernel
theorem d_L_init_11 : decode b_L_init 11 = .ok (.return_, 1) := by decide +kernel
theorem d_R_init_0 : decode b_R_init 0 = .ok (.aload_n 0, 1) := by decide +kernel
theorem d_R_init_1 : decode b_R_init 1 = .ok (.invokespecial 3, 3) := by decide +kernel
theorem d_R_init_4 : decode b_R_init 4 = .ok (.aload_n 0, 1) := by decide +kernel
theorem d_R_init_5 : decode b_R_init 5 = .ok (.bipush 8, 2) := by decide +kernel
theorem d_R_init_7 : decode b_R_init 7 = .ok (.newarray .int, 2) := by decide +kernel
theorem d_R_init_9 : decode b_R_init 9 = .ok (.putfield 9, 3) := by decide +kernel
theorem d_R_init_12 : decode b_R_init 12 = .ok (.aload_n 0, 1) := by decide +kernel
theorem d_R_init_13 : decode b_R_init 13 = .ok (.bipush 8, 2) := by decide +kernel
theorem d_R_init_15 : decode b_R_init 15 = .ok (.newarray .int, 2) := by decide +kernel
theorem d_R_init_17 : decode b_R_init 17 = .ok (.putfield 15, 3) := by decide +kernel
theorem d_R_init_20 : decode b_R_init 20 = .ok (.aload_n 0, 1) := by decide +kernel
theorem d_R_init_21 : decode b_R_init 21 = .ok (.iconst 4, 1) := by decide +kernel
theorem d_R_init_22 : decode b_R_init 22 = .ok (.newarray .boolean, 2) := by decide +kernel
theorem d_R_init_24 : decode b_R_init 24 = .ok (.putfield 18, 3) := by decide +kernel
theorem d_R_init_27 : decode b_R_init 27 = .ok (.return_, 1) := by decide +kernel
theorem d_O_init_0 : decode b_O_init 0 = .ok (.aload_n 0, 1) := by decide +kernel
theorem d_O_init_1 : decode b_O_init 1 = .ok (.invokespecial 3, 3) := by decide +kernel
theorem d_O_init_4 : decode b_O_init 4 = .ok (.aload_n 0, 1) := by decide +kernel
theorem d_O_init_5 : decode b_O_init 5 = .ok (.bipush 24, 2) := by decide +kernel
theorem d_O_init_7 : decode b_O_init 7 = .ok (.newarray .int, 2) := by decide +kernel
theorem d_O_init_9 : decode b_O_init 9 = .ok (.putfield 9, 3) := by decide +kernel
theorem d_O_init_12 : decode b_O_init 12 = .ok (.return_, 1) := by decide +kernel
theorem d_X_init_0 : decode b_X_init 0 = .ok (.aload_n 0, 1) := by decide +kernel
theorem d_X_init_1 : decode b_X_init 1 = .ok (.invokespecial 3, 3) := by decide +kernel
theorem d_X_init_4 : decode b_X_init 4 = .ok (.aload_n 0, 1) := by decide +kernel
theorem d_X_init_5 : decode b_X_init 5 = .ok (.new 9, 3) := by decide +kernel
theorem d_X_init_8 : decode b_X_init 8 = .ok (.dup, 1) := by decide +kernel
theorem d_X_init_9 : decode b_X_init 9 = .ok (.invokespecial 11, 3) := by decide +kernel
theorem d_X_init_12 : decode b_X_init 12 = .ok (.putfield 12, 3) := by decide +kernel
theorem d_X_init_15 : decode b_X_init 15 = .ok (.aload_n 0, 1) := by decide +kernel
theorem d_X_init_16 : decode b_X_init 16 = .ok (.bipush 7, 2) := by decide +kernel
theorem d_X_init_18 : decode b_X_init 18 = .ok (.anewarray 9, 3) := by decide +kernel
theorem d_X_init_21 : decode b_X_init 21 = .ok (.putfield 16, 3) := by decide +kernel
theorem d_X_init_24 : decode b_X_init 24 = .ok (.iconst 0, 1) := by decide +kernel
theorem d_X_init_25 : decode b_X_init 25 = .ok (.istore_n 1, 1) := by decide +kernel
theorem d_X_init_26 : decode b_X_init 26 = .ok (.iload_n 1, 1) := by decide +kernel
theorem d_X_init_27 : decode b_X_init 27 = .ok (.bipush 6, 2) := by decide +kernel
theorem d_X_init_29 : decode b_X_init 29 = .ok (.if_icmp .gt 22, 3) := by decide +kernel
theorem d_X_init_32 : decode b_X_init 32 = .ok (.aload_n 0, 1) := by decide +kernel
theorem d_X_init_33 : decode b_X_init 33 = .ok (.getfield 16, 3) := by decide +kernel
theorem d_X_init_36 : decode b_X_init 36 = .ok (.iload_n 1, 1) := by decide +kernel
theorem d_X_init_37 : decode b_X_init 37 = .ok (.new 9, 3) := by decide +kernel
theorem d_X_init_40 : decode b_X_init 40 = .ok (.dup, 1) := by decide +kernel
theorem d_X_init_41 : decode b_X_init 41 = .ok (.invokespecial 11, 3) := by decide +kernel
theorem d_X_init_44 : decode b_X_init 44 = .ok (.aastore, 1) := by decide +kernel
theorem d_X_init_45 : decode b_X_init 45 = .ok (.iinc 1 1, 3) := by decide +kernel
theorem d_X_init_48 : decode b_X_init 48 = .ok (.goto (-22), 3) := by decide +kernel
theorem d_X_init_51 : decode b_X_init 51 = .ok (.aload_n 0, 1) := by decide +kernel
theorem d_X_init_52 : decode b_X_init 52 = .ok (.bipush 12, 2) := by decide +kernel
theorem d_X_init_54 : decode b_X_init 54 = .ok (.anewarray 20, 3) := by decide +kernel
theorem d_X_init_57 : decode b_X_init 57 = .ok (.putfield 22, 3) := by decide +kernel
theorem d_X_init_60 : decode b_X_init 60 = .ok (.iconst 0, 1) := by decide +kernel
theorem d_X_init_61 : decode b_X_init 61 = .ok (.istore_n 1, 1) := by decide +kernel
theorem d_X_init_62 : decode b_X_init 62 = .ok (.iload_n 1, 1) := by decide +kernel
theorem d_X_init_63 : decode b_X_init 63 = .ok (.bipush 12, 2) := by decide +kernel
theorem d_X_init_65 : decode b_X_init 65 = .ok (.if_icmp .ge 35, 3) := by decide +kernel
theorem d_X_init_68 : decode b_X_init 68 = .ok (.aload_n 0, 1) := by decide +kernel
theorem d_X_init_69 : decode b_X_init 69 = .ok (.getfield 22, 3) := by decide +kernel
theorem d_X_init_72 : decode b_X_init 72 = .ok (.iload_n 1, 1) := by decide +kernel
theorem d_X_init_73 : decode b_X_init 73 = .ok (.new 20, 3) := by decide +kernel
theorem d_X_init_76 : decode b_X_init 76 = .ok (.dup, 1) := by decide +kernel
theorem d_X_init_77 : decode b_X_init 77 = .ok (.iload_n 1, 1) := by decide +kernel
theorem d_X_init_78 : decode b_X_init 78 = .ok (.bipush 8, 2) := by decide +kernel
theorem d_X_init_80 : decode b_X_init 80 = .ok (.if_icmp .ge 8, 3) := by decide +kernel
theorem d_X_init_83 : decode b_X_init 83 = .ok (.bipush 24, 2) := by decide +kernel
theorem d_X_init_85 : decode b_X_init 85 = .ok (.goto 5, 3) := by decide +kernel
theorem d_X_init_88 : decode b_X_init 88 = .ok (.bipush 10, 2) := by decide +kernel
theorem d_X_init_90 : decode b_X_init 90 = .ok (.invokespecial 26, 3) := by decide +kernel
theorem d_X_init_93 : decode b_X_init 93 = .ok (.aastore, 1) := by decide +kernel
theorem d_X_init_94 : decode b_X_init 94 = .ok (.iinc 1 1, 3) := by decide +kernel
theorem d_X_init_97 : decode b_X_init 97 = .ok (.goto (-35), 3) := by decide +kernel
theorem d_X_init_100 : decode b_X_init 100 = .ok (.aload_n 0, 1) := by decide +kernel
theorem d_X_init_101 : decode b_X_init 101 = .ok (.bipush 8, 2) := by decide +kernel
theorem d_X_init_103 : decode b_X_init 103 = .ok (.anewarray 29, 3) := by decide +kernel
theorem d_X_init_106 : decode b_X_init 106 = .ok (.putfield 31, 3) := by decide +kernel
theorem d_X_init_109 : decode b_X_init 109 = .ok (.iconst 0, 1) := by decide +kernel
theorem d_X_init_110 : decode b_X_init 110 = .ok (.istore_n 1, 1) := by decide +kernel
theorem d_X_init_111 : decode b_X_init 111 = .ok (.iload_n 1, 1) := by decide +kernel
theorem d_X_init_112 : decode b_X_init 112 = .ok (.bipush 8, 2) := by decide +kernel
theorem d_X_init_114 : decode b_X_init 114 = .ok (.if_icmp .ge 22, 3) := by decide +kernel
theorem d_X_init_117 : decode b_X_init 117 = .ok (.aload_n 0, 1) := by decide +kernel
theorem d_X_init_118 : decode b_X_init 118 = .ok (.getfield 31, 3) := by decide +kernel
theorem d_X_init_121 : decode b_X_init 121 = .ok (.iload_n 1, 1) := by decide +kernel
theorem d_X_init_122 : decode b_X_init 122 = .ok (.new 29, 3) := by decide +kernel
theorem d_X_init_125 : decode b_X_init 125 = .ok (.dup, 1) := by decide +kernel
theorem d_X_init_126 : decode b_X_init 126 = .ok (.invokespecial 35, 3) := by decide +kernel
theorem d_X_init_129 : decode b_X_init 129 = .ok (.aastore, 1) := by decide +kernel
theorem d_X_init_130 : decode b_X_init 130 = .ok (.iinc 1 1, 3) := by decide +kernel
theorem d_X_init_133 : decode b_X_init 133 = .ok (.goto (-22), 3) := by decide +kernel
theorem d_X_init_136 : decode b_X_init 136 = .ok (.aload_n 0, 1) := by decide +kernel
theorem d_X_init_137 : decode b_X_init 137 = .ok (.bipush 16, 2) := by decide +kernel
theorem d_X_init_139 : decode b_X_init 139 = .ok (.anewarray 36, 3) := by decide +kernel
theorem d_X_init_142 : decode b_X_init 142 = .ok (.putfield 38, 3) := by decide +kernel
theorem d_X_init_145 : decode b_X_init 145 = .ok (.iconst 0, 1) := by decide +kernel
theorem d_X_init_146 : decode b_X_init 146 = .ok (.istore_n 1, 1) := by decide +kernel
theorem d_X_init_147 : decode b_X_init 147 = .ok (.iload_n 1, 1) := by decide +kernel
theorem d_X_init_148 : decode b_X_init 148 = .ok (.bipush 16, 2) := by decide +kernel
theorem d_X_init_150 : decode b_X_init 150 = .ok (.if_icmp .ge 22, 3) := by decide +kernel
theorem d_X_init_153 : decode b_X_init 153 = .ok (.aload_n 0, 1) := by decide +kernel
theorem d_X_init_154 : decode b_X_init 154 = .ok (.getfield 38, 3) := by decide +kernel
theorem d_X_init_157 : decode b_X_init 157 = .ok (.iload_n 1, 1) := by decide +kernel
theorem d_X_init_158 : decode b_X_init 158 = .ok (.new 36, 3) := by decide +kernel
theorem d_X_init_161 : decode b_X_init 161 = .ok (.dup, 1) := by decide +kernel
theorem d_X_init_162 : decode b_X_init 162 = .ok (.invokespecial 42, 3) := by decide +kernel
theorem d_X_init_165 : decode b_X_init 165 = .ok (.aastore, 1) := by decide +kernel
theorem d_X_init_166 : decode b_X_init 166 = .ok (.iinc 1 1, 3) := by decide +kernel
theorem d_X_init_169 : decode b_X_init 169 = .ok (.goto (-22), 3) := by decide +kernel
theorem d_X_init_172 : decode b_X_init 172 = .ok (.aload_n 0, 1) := by decide +kernel
theorem d_X_init_173 : decode b_X_init 173 = .ok (.iconst 4, 1) := by decide +kernel
theorem d_X_init_174 : decode b_X_init 174 = .ok (.newarray .long, 2) := by decide +kernel
theorem d_X_init_176 : decode b_X_init 176 = .ok (.putfield 43, 3) := by decide +kernel
theorem d_X_init_179 : decode b_X_init 179 = .ok (.aload_n 0, 1) := by decide +kernel
theorem d_X_init_180 : decode b_X_init 180 = .ok (.new 47, 3) := by decide +kernel
theorem d_X_init_183 : decode b_X_init 183 = .ok (.dup, 1) := by decide +kernel
theorem d_X_init_184 : decode b_X_init 184 = .ok (.invokespecial 49, 3) := by decide +kernel
theorem d_X_init_187 : decode b_X_init 187 = .ok (.putfield 50, 3) := by decide +kernel
theorem d_X_init_190 : decode b_X_init 190 = .ok (.aload_n 0, 1) := by decide +kernel
theorem d_X_init_191 : decode b_X_init 191 = .ok (.new 47, 3) := by decide +kernel
theorem d_X_init_194 : decode b_X_init 194 = .ok (.dup, 1) := by decide +kernel
theorem d_X_init_195 : decode b_X_init 195 = .ok (.invokespecial 49, 3) := by decide +kernel
theorem d_X_init_198 : decode b_X_init 198 = .ok (.putfield 54, 3) := by decide +kernel
theorem d_X_init_201 : decode b_X_init 201 = .ok (.aload_n 0, 1) := by decide +kernel
theorem d_X_init_202 : decode b_X_init 202 = .ok (.new 57, 3) := by decide +kernel
theorem d_X_init_205 : decode b_X_init 205 = .ok (.dup, 1) := by decide +kernel
theorem d_X_init_206 : decode b_X_init 206 = .ok (.invokespecial 59, 3) := by decide +kernel
theorem d_X_init_209 : decode b_X_init 209 = .ok (.putfield 60, 3) := by decide +kernel
theorem d_X_init_212 : decode b_X_init 212 = .ok (.aload_n 0, 1) := by decide +kernel
theorem d_X_init_213 : decode b_X_init 213 = .ok (.new 57, 3) := by decide +kernel
theorem d_X_init_216 : decode b_X_init 216 = .ok (.dup, 1) := by decide +kernel
theorem d_X_init_217 : decode b_X_init 217 = .ok (.invokespecial 59, 3) := by decide +kernel
theorem d_X_init_220 : decode b_X_init 220 = .ok (.putfield 64, 3) := by decide +kernel
theorem d_X_init_223 : decode b_X_init 223 = .ok (.return_, 1) := by decide +kernel
theorem d_M_init_0 : decode b_M_init 0 = .ok (.aload_n 0, 1) := by decide +kernel
theorem d_M_init_1 : decode b_M_init 1 = .ok (.invokespecial 1, 3) := by decide +kernel
theorem d_M_init_4 : decode b_M_init 4 = .ok (.aload_n 0, 1) := by decide +kernel
theorem d_M_init_5 : decode b_M_init 5 = .ok (.sipush 192, 3) := by decide +kernel
theorem d_M_init_8 : decode b_M_init 8 = .ok (.newarray .int, 2) := by decide +kernel
theorem d_M_init_10 : decode b_M_init 10 = .ok (.putfield 7, 3) := by decide +kernel
theorem d_M_init_13 : decode b_M_init 13 = .ok (.aload_n 0, 1) := by decide +kernel
theorem d_M_init_14 : decode b_M_init 14 = .ok (.sipush 192, 3) := by decide +kernel
theorem d_M_init_17 : decode b_M_init 17 = .ok (.newarray .int, 2) := by decide +kernel
theorem d_M_init_19 : decode b_M_init 19 = .ok (.putfield 13, 3) := by decide +kernel
theorem d_M_init_22 : decode b_M_init 22 = .ok (.aload_n 0, 1) := by decide +kernel
theorem d_M_init_23 : decode b_M_init 23 = .ok (.sipush 192, 3) := by decide +kernel
theorem d_M_init_26 : decode b_M_init 26 = .ok (.newarray .int, 2) := by decide +kernel
theorem d_M_init_28 : decode b_M_init 28 = .ok (.putfield 16, 3) := by decide +kernel
theorem d_M_init_31 : decode b_M_init 31 = .ok (.aload_n 0, 1) := by decide +kernel
theorem d_M_init_32 : decode b_M_init 32 = .ok (.bipush 8, 2) := by decide +kernel
theorem d_M_init_34 : decode b_M_init 34 = .ok (.newarray .int, 2) := by decide +kernel
theorem d_M_init_36 : decode b_M_init 36 = .ok (.putfield 19, 3) := by decide +kernel
theorem d_M_init_39 : decode b_M_init 39 = .ok (.aload_n 0, 1) := by decide +kernel
theorem d_M_init_40 : decode b_M_init 40 = .ok (.bipush 12, 2) := by decide +kernel
theorem d_M_init_42 : decode b_M_init 42 = .ok (.newarray .int, 2) := by decide +kernel
theorem d_M_init_44 : decode b_M_init 44 = .ok (.putfield 22, 3) := by decide +kernel
theorem d_M_init_47 : decode b_M_init 47 = .ok (.aload_n 0, 1) := by decide +kernel
theorem d_M_init_48 : decode b_M_init 48 = .ok (.bipush 16, 2) := by decide +kernel
theorem d_M_init_50 : decode b_M_init 50 = .ok (.newarray .int, 2) := by decide +kernel
theorem d_M_init_52 : decode b_M_init 52 = .ok (.putfield 25, 3) := by decide +kernel
theorem d_M_init_55 : decode b_M_init 55 = .ok (.aload_n 0, 1) := by decide +kernel
theorem d_M_init_56 : decode b_M_init 56 = .ok (.bipush 16, 2) := by decide +kernel
theorem d_M_init_58 : decode b_M_init 58 = .ok (.newarray .int, 2) := by decide +kernel
theorem d_M_init_60 : decode b_M_init 60 = .ok (.putfield 28, 3) := by decide +kernel
theorem d_M_init_63 : decode b_M_init 63 = .ok (.aload_n 0, 1) := by decide +kernel
theorem d_M_init_64 : decode b_M_init 64 = .ok (.bipush 16, 2) := by decide +kernel
theorem d_M_init_66 : decode b_M_init 66 = .ok (.newarray .int, 2) := by decide +kernel
theorem d_M_init_68 : decode b_M_init 68 = .ok (.putfield 31, 3) := by decide +kernel
theorem d_M_init_71 : decode b_M_init 71 = .ok (.aload_n 0, 1) := by decide +kernel
theorem d_M_init_72 : decode b_M_init 72 = .ok (.bipush 16, 2) := by decide +kernel
theorem d_M_init_74 : decode b_M_init 74 = .ok (.newarray .int, 2) := by decide +kernel
theorem d_M_init_76 : decode b_M_init 76 = .ok (.putfield 34, 3) := by decide +kernel
theorem d_M_init_79 : decode b_M_init 79 = .ok (.aload_n 0, 1) := by decide +kernel
theorem d_M_init_80 : decode b_M_init 80 = .ok (.bipush 16, 2) := by decide +kernel
theorem d_M_init_82 : decode b_M_init 82 = .ok (.newarray .int, 2) := by decide +kernel
theorem d_M_init_84 : decode b_M_init 84 = .ok (.putfield 37, 3) := by decide +kernel
theorem d_M_init_87 : decode b_M_init 87 = .ok (.aload_n 0, 1) := by decide +kernel
theorem d_M_init_88 : decode b_M_init 88 = .ok (.bipush 16, 2) := by decide +kernel
theorem d_M_init_90 : decode b_M_init 90 = .ok (.newarray .int, 2) := by decide +kernel
theorem d_M_init_92 : decode b_M_init 92 = .ok (.putfield 40, 3) := by decide +kernel
theorem d_M_init_95 : decode b_M_init 95 = .ok (.aload_n 0, 1) := by decide +kernel
theorem d_M_init_96 : decode b_M_init 96 = .ok (.bipush 16, 2) := by decide +kernel
theorem d_M_init_98 : decode b_M_init 98 = .ok (.newarray .int, 2) := by decide +kernel
theorem d_M_init_100 : decode b_M_init 100 = .ok (.putfield 43, 3) := by decide +kernel
theorem d_M_init_103 : decode b_M_init 103 = .ok (.aload_n 0, 1) := by decide +kernel
theorem d_M_init_104 : decode b_M_init 104 = .ok (.bipush 16, 2) := by decide +kernel
theorem d_M_init_106 : decode b_M_init 106 = .ok (.newarray .int, 2) := by decide +kernel
theorem d_M_init_108 : decode b_M_init 108 = .ok (.putfield 46, 3) := by decide +kernel
theorem d_M_init_111 : decode b_M_init 111 = .ok (.aload_n 0, 1) := by decide +kernel
theorem d_M_init_112 : decode b_M_init 112 = .ok (.bipush 16, 2) := by decide +kernel
theorem d_M_init_114 : decode b_M_init 114 = .ok (.newarray .boolean, 2) := by decide +kernel
theorem d_M_init_116 : decode b_M_init 116 = .ok (.putfield 49, 3) := by decide +kernel
theorem d_M_init_119 : decode b_M_init 119 = .ok (.aload_n 0, 1) := by decide +kernel
theorem d_M_init_120 : decode b_M_init 120 = .ok (.sipush 512, 3) := by decide +kernel
theorem d_M_init_123 : decode b_M_init 123 = .ok (.newarray .int, 2) := by decide +kernel
theorem d_M_init_125 : decode b_M_init 125 = .ok (.putfield 53, 3) := by decide +kernel
theorem d_M_init_128 : decode b_M_init 128 = .ok (.aload_n 0, 1) := by decide +kernel
theorem d_M_init_129 : decode b_M_init 129 = .ok (.sipush 768, 3) := by decide +kernel
theorem d_M_init_132 : decode b_M_init 132 = .ok (.newarray .boolean, 2) := by decide +kernel
theorem d_M_init_134 : decode b_M_init 134 = .ok (.putfield 56, 3) := by decide +kernel
theorem d_M_init_137 : decode b_M_init 137 = .ok (.aload_n 0, 1) := by decide +kernel
theorem d_M_init_138 : decode b_M_init 138 = .ok (.sipush 768, 3) := by decide +kernel
theorem d_M_init_141 : decode b_M_init 141 = .ok (.newarray .int, 2) := by decide +kernel
theorem d_M_init_143 : decode b_M_init 143 = .ok (.putfield 59, 3) := by decide +kernel
theorem d_M_init_146 : decode b_M_init 146 = .ok (.aload_n 0, 1) := by decide +kernel
theorem d_M_init_147 : decode b_M_init 147 = .ok (.sipush 768, 3) := by decide +kernel
theorem d_M_init_150 : decode b_M_init 150 = .ok (.newarray .int, 2) := by decide +kernel
theorem d_M_init_152 : decode b_M_init 152 = .ok (.putfield 62, 3) := by decide +kernel
theorem d_M_init_155 : decode b_M_init 155 = .ok (.aload_n 0, 1) := by decide +kernel
theorem d_M_init_156 : decode b_M_init 156 = .ok (.sipush 6144, 3) := by decide +kernel
theorem d_M_init_159 : decode b_M_init 159 = .ok (.newarray .int, 2) := by decide +kernel
theorem d_M_init_161 : decode b_M_init 161 = .ok (.putfield 65, 3) := by decide +kernel
theorem d_M_init_164 : decode b_M_init 164 = .ok (.aload_n 0, 1) := by decide +kernel
theorem d_M_init_165 : decode b_M_init 165 = .ok (.sipush 192, 3) := by decide +kernel
theorem d_M_init_168 : decode b_M_init 168 = .ok (.newarray .int, 2) := by decide +kernel
theorem d_M_init_170 : decode b_M_init 170 = .ok (.putfield 68, 3) := by decide +kernel
theorem d_M_init_173 : decode b_M_init 173 = .ok (.aload_n 0, 1) := by decide +kernel
theorem d_M_init_174 : decode b_M_init 174 = .ok (.bipush 12, 2) := by decide +kernel
theorem d_M_init_176 : decode b_M_init 176 = .ok (.newarray .int, 2) := by decide +kernel
theorem d_M_init_178 : decode b_M_init 178 = .ok (.putfield 71, 3) := by decide +kernel
theorem d_M_init_181 : decode b_M_init 181 = .ok (.aload_n 0, 1) := by decide +kernel
theorem d_M_init_182 : decode b_M_init 182 = .ok (.bipush 12, 2) := by decide +kernel
theorem d_M_init_184 : decode b_M_init 184 = .ok (.newarray .int, 2) := by decide +kernel
theorem d_M_init_186 : decode b_M_init 186 = .ok (.putfield 74, 3) := by decide +kernel
theorem d_M_init_189 : decode b_M_init 189 = .ok (.aload_n 0, 1) := by decide +kernel
theorem d_M_init_190 : decode b_M_init 190 = .ok (.bipush 24, 2) := by decide +kernel
theorem d_M_init_192 : decode b_M_init 192 = .ok (.newarray .int, 2) := by decide +kernel
theorem d_M_init_194 : decode b_M_init 194 = .ok (.putfield 77, 3) := by decide +kernel
theorem d_M_init_197 : decode b_M_init 197 = .ok (.aload_n 0, 1) := by decide +kernel
theorem d_M_init_198 : decode b_M_init 198 = .ok (.bipush 24, 2) := by decide +kernel
theorem d_M_init_200 : decode b_M_init 200 = .ok (.newarray .int, 2) := by decide +kernel
theorem d_M_init_202 : decode b_M_init 202 = .ok (.putfield 80, 3) := by decide +kernel
theorem d_M_init_205 : decode b_M_init 205 = .ok (.aload_n 0, 1) := by decide +kernel
theorem d_M_init_206 : decode b_M_init 206 = .ok (.sipush 384, 3) := by decide +kernel
theorem d_M_init_209 : decode b_M_init 209 = .ok (.newarray .int, 2) := by decide +kernel
theorem d_M_init_211 : decode b_M_init 211 = .ok (.putfield 83, 3) := by decide +kernel
theorem d_M_init_214 : decode b_M_init 214 = .ok (.aload_n 0, 1) := by decide +kernel
theorem d_M_init_215 : decode b_M_init 215 = .ok (.bipush 48, 2) := by decide +kernel
theorem d_M_init_217 : decode b_M_init 217 = .ok (.newarray .boolean, 2) := by decide +kernel
theorem d_M_init_219 : decode b_M_init 219 = .ok (.putfield 86, 3) := by decide +kernel
theorem d_M_init_222 : decode b_M_init 222 = .ok (.aload_n 0, 1) := by decide +kernel
theorem d_M_init_223 : decode b_M_init 223 = .ok (.bipush 32, 2) := by decide +kernel
theorem d_M_init_225 : decode b_M_init 225 = .ok (.newarray .int, 2) := by decide +kernel
theorem d_M_init_227 : decode b_M_init 227 = .ok (.putfield 89, 3) := by decide +kernel
theorem d_M_init_230 : decode b_M_init 230 = .ok (.aload_n 0, 1) := by decide +kernel
theorem d_M_init_231 : decode b_M_init 231 = .ok (.iconst 4, 1) := by decide +kernel
theorem d_M_init_232 : decode b_M_init 232 = .ok (.newarray .boolean, 2) := by decide +kernel
theorem d_M_init_234 : decode b_M_init 234 = .ok (.putfield 92, 3) := by decide +kernel
theorem d_M_init_237 : decode b_M_init 237 = .ok (.aload_n 0, 1) := by decide +kernel
theorem d_M_init_238 : decode b_M_init 238 = .ok (.bipush 8, 2) := by decide +kernel
theorem d_M_init_240 : decode b_M_init 240 = .ok (.newarray .int, 2) := by decide +kernel
theorem d_M_init_242 : decode b_M_init 242 = .ok (.putfield 95, 3) := by decide +kernel
theorem d_M_init_245 : decode b_M_init 245 = .ok (.aload_n 0, 1) := by decide +kernel
theorem d_M_init_246 : decode b_M_init 246 = .ok (.sipush 128, 3) := by decide +kernel
theorem d_M_init_249 : decode b_M_init 249 = .ok (.newarray .boolean, 2) := by decide +kernel
theorem d_M_init_251 : decode b_M_init 251 = .ok (.putfield 98, 3) := by decide +kernel
theorem d_M_init_254 : decode b_M_init 254 = .ok (.aload_n 0, 1) := by decide +kernel
theorem d_M_init_255 : decode b_M_init 255 = .ok (.bipush 8, 2) := by decide +kernel
theorem d_M_init_257 : decode b_M_init 257 = .ok (.newarray .int, 2) := by decide +kernel
theorem d_M_init_259 : decode b_M_init 259 = .ok (.putfield 101, 3) := by decide +kernel
theorem d_M_init_262 : decode b_M_init 262 = .ok (.iconst 0, 1) := by decide +kernel
theorem d_M_init_263 : decode b_M_init 263 = .ok (.istore_n 1, 1) := by decide +kernel
theorem d_M_init_264 : decode b_M_init 264 = .ok (.iload_n 1, 1) := by decide +kernel
theorem d_M_init_265 : decode b_M_init 265 = .ok (.bipush 24, 2) := by decide +kernel
theorem d_M_init_267 : decode b_M_init 267 = .ok (.if_icmp .ge 16, 3) := by decide +kernel
theorem d_M_init_270 : decode b_M_init 270 = .ok (.aload_n 0, 1) := by decide +kernel
theorem d_M_init_271 : decode b_M_init 271 = .ok (.getfield 77, 3) := by decide +kernel
theorem d_M_init_274 : decode b_M_init 274 = .ok (.iload_n 1, 1) := by decide +kernel
theorem d_M_init_275 : decode b_M_init 275 = .ok (.iconst (-1), 1) := by decide +kernel
theorem d_M_init_276 : decode b_M_init 276 = .ok (.iastore, 1) := by decide +kernel
theorem d_M_init_277 : decode b_M_init 277 = .ok (.iinc 1 1, 3) := by decide +kernel
theorem d_M_init_280 : decode b_M_init 280 = .ok (.goto (-16), 3) := by decide +kernel
theorem d_M_init_283 : decode b_M_init 283 = .ok (.return_, 1) := by decide +kernel

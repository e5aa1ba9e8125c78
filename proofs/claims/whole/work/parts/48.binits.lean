def f_T_init (i0 : Nat) (kB kE : Nat) (s : Mem) : RR :=
  bb_nw kB kE 2 i0 s fun s7 =>
  bb_pr s7 1 i0 0 fun s9 =>
  bb_nw kB kE 3 i0 s9 fun s15 =>
  bb_pr s15 1 i0 1 fun s17 =>
  bb_nw kB kE 4 i0 s17 fun s23 =>
  bb_pr s23 1 i0 2 fun s25 =>
  mm_rv s25
set_option maxRecDepth 100000 in
set_option maxHeartbeats 4000000 in
theorem c_T_init {l : Launch} {K : KK} (i0 : Nat) (s q : Mem) (h : f_T_init i0 (kn s) (kn q) s = some (.inr none, q)) : CtB l K y_T_init b_T_init 1 1 20 [.ref (aa K 1 i0)] s q := by
  refine CtB_of (own := "VillageMail$Timetable") (nm := "<init>") (L := [(0, _)]) (by decide +kernel) ⟨rfl, rfl⟩ (Nat.le_of_ble_eq_true rfl) rfl (fun Γ hk G E => ?_)
  unfold f_T_init at h
  refine wb_aload_n 0 G d_T_init_0 rfl rfl ?_
  refine wb_objinit G oi_T_3 (by decide) (Nat.le_of_ble_eq_true rfl) d_T_init_1 ?_
  refine wb_aload_n 0 G d_T_init_4 rfl rfl ?_
  refine wb_bipush (v := (24 : Int32)) G d_T_init_5 ib_24 ?_
  refine wb_newa G E bi_2 ⟨by decide, by decide, by decide⟩ d_T_init_7 h (fun s7 h => ?_)
  refine wb_putr G E fr_T_9 d_T_init_9 h (fun s9 h => ?_)
  refine wb_aload_n 0 G d_T_init_12 rfl rfl ?_
  refine wb_bipush (v := (24 : Int32)) G d_T_init_13 ib_24 ?_
  refine wb_newa G E bi_3 ⟨by decide, by decide, by decide⟩ d_T_init_15 h (fun s15 h => ?_)
  refine wb_putr G E fr_T_15 d_T_init_17 h (fun s17 h => ?_)
  refine wb_aload_n 0 G d_T_init_20 rfl rfl ?_
  refine wb_bipush (v := (24 : Int32)) G d_T_init_21 ib_24 ?_
  refine wb_newa G E bi_4 ⟨by decide, by decide, by decide⟩ d_T_init_23 h (fun s23 h => ?_)
  refine wb_putr G E fr_T_18 d_T_init_25 h (fun s25 h => ?_)
  exact wb_vret G E d_T_init_28 hk h
def f_S_init (i0 : Nat) (x1 : Int32) (kB kE : Nat) (s : Mem) : RR :=
  bb_pf s 7 i0 0 x1 fun s6 =>
  bb_nw kB kE 8 i0 s6 fun s12 =>
  bb_pr s12 7 i0 1 fun s14 =>
  bb_gr s14 7 i0 1 <|
  bb_cV kB kE (kn s14) (f_B_fill 8 i0 64 ((-1 : Int32)) s14) s14 fun s22 =>
  bb_nw kB kE 9 i0 s22 fun s28 =>
  bb_pr s28 7 i0 2 fun s30 =>
  bb_nw kB kE 10 i0 s30 fun s36 =>
  bb_pr s36 7 i0 3 fun s38 =>
  bb_nw kB kE 11 i0 s38 fun s44 =>
  bb_pr s44 7 i0 4 fun s46 =>
  mm_rv s46
set_option maxRecDepth 100000 in
set_option maxHeartbeats 4000000 in
theorem c_S_init {l : Launch} {K : KK} (i0 : Nat) (x1 : Int32) (s q : Mem) (h : f_S_init i0 x1 (kn s) (kn q) s = some (.inr none, q)) : CtB l K y_S_init b_S_init 2 1 23 [.ref (aa K 7 i0), .int x1] s q := by
  refine CtB_of (own := "VillageMail$Store") (nm := "<init>") (L := [(0, _), (1, _)]) (by decide +kernel) ⟨rfl, rfl⟩ (Nat.le_of_ble_eq_true rfl) rfl (fun Γ hk G E => ?_)
  unfold f_S_init at h
  refine wb_aload_n 0 G d_S_init_0 rfl rfl ?_
  refine wb_objinit G oi_S_3 (by decide) (Nat.le_of_ble_eq_true rfl) d_S_init_1 ?_
  refine wb_aload_n 0 G d_S_init_4 rfl rfl ?_
  refine wb_iload_n 1 G d_S_init_5 rfl rfl ?_
  refine wb_putf G E fi_S_9 d_S_init_6 h (fun s6 h => ?_)
  refine wb_aload_n 0 G d_S_init_9 rfl rfl ?_
  refine wb_bipush (v := (64 : Int32)) G d_S_init_10 ib_64 ?_
  refine wb_newa G E bi_8 ⟨by decide, by decide, by decide⟩ d_S_init_12 h (fun s12 h => ?_)
  refine wb_putr G E fr_S_15 d_S_init_14 h (fun s14 h => ?_)
  refine wb_aload_n 0 G d_S_init_17 rfl rfl ?_
  refine wb_getr G fr_S_15 d_S_init_18 h (fun h => ?_)
  refine wb_iconst (v := (-1 : Int32)) G d_S_init_21 ic_m1 ?_
  refine wb_callS (As := [_, _]) G E cs_S_19 (fun q1 h1 k1 => c_B_fill 8 i0 64 ai_8 q1 h1) rfl rfl (Nat.le_of_ble_eq_true rfl) d_S_init_22 (by decide) hk.2 h (fun s22 h => ?_)
  refine wb_aload_n 0 G d_S_init_25 rfl rfl ?_
  refine wb_bipush (v := (64 : Int32)) G d_S_init_26 ib_64 ?_
  refine wb_newa G E bi_9 ⟨by decide, by decide, by decide⟩ d_S_init_28 h (fun s28 h => ?_)
  refine wb_putr G E fr_S_25 d_S_init_30 h (fun s30 h => ?_)
  refine wb_aload_n 0 G d_S_init_33 rfl rfl ?_
  refine wb_bipush (v := (64 : Int32)) G d_S_init_34 ib_64 ?_
  refine wb_newa G E bi_10 ⟨by decide, by decide, by decide⟩ d_S_init_36 h (fun s36 h => ?_)
  refine wb_putr G E fr_S_28 d_S_init_38 h (fun s38 h => ?_)
  refine wb_aload_n 0 G d_S_init_41 rfl rfl ?_
  refine wb_bipush (v := (16 : Int32)) G d_S_init_42 ib_16 ?_
  refine wb_newa G E bi_11 ⟨by decide, by decide, by decide⟩ d_S_init_44 h (fun s44 h => ?_)
  refine wb_putr G E fr_S_32 d_S_init_46 h (fun s46 h => ?_)
  exact wb_vret G E d_S_init_49 hk h
def f_B_init (i0 : Nat) (kB kE : Nat) (s : Mem) : RR :=
  bb_nw kB kE 17 i0 s fun s7 =>
  bb_pr s7 16 i0 0 fun s9 =>
  bb_pf s9 16 i0 3 ((-1 : Int32)) fun s14 =>
  mm_rv s14
set_option maxRecDepth 100000 in
set_option maxHeartbeats 4000000 in
theorem c_B_init {l : Launch} {K : KK} (i0 : Nat) (s q : Mem) (h : f_B_init i0 (kn s) (kn q) s = some (.inr none, q)) : CtB l K y_B_init b_B_init 1 1 20 [.ref (aa K 16 i0)] s q := by
  refine CtB_of (own := "VillageMail$Box") (nm := "<init>") (L := [(0, _)]) (by decide +kernel) ⟨rfl, rfl⟩ (Nat.le_of_ble_eq_true rfl) rfl (fun Γ hk G E => ?_)
  unfold f_B_init at h
  refine wb_aload_n 0 G d_B_init_0 rfl rfl ?_
  refine wb_objinit G oi_B_3 (by decide) (Nat.le_of_ble_eq_true rfl) d_B_init_1 ?_
  refine wb_aload_n 0 G d_B_init_4 rfl rfl ?_
  refine wb_bipush (v := (16 : Int32)) G d_B_init_5 ib_16 ?_
  refine wb_newa G E bi_17 ⟨by decide, by decide, by decide⟩ d_B_init_7 h (fun s7 h => ?_)
  refine wb_putr G E fr_B_9 d_B_init_9 h (fun s9 h => ?_)
  refine wb_aload_n 0 G d_B_init_12 rfl rfl ?_
  refine wb_iconst (v := (-1 : Int32)) G d_B_init_13 ic_m1 ?_
  refine wb_putf G E fi_B_15 d_B_init_14 h (fun s14 h => ?_)
  exact wb_vret G E d_B_init_17 hk h
def lp_C_init_14 (kB : Nat) (kE : Nat) (i0 : Nat) (k : Mem → RR) : Nat → Int32 → Mem → RR
  | 0, _, _ => none
  | n + 1, x1, s =>
    if ((3 : Int32)) ≤ x1 then (
      k s
    ) else (
      bb_gr s 13 i0 0 <|
      bb_nw kB kE 16 ((3 * i0 + x1.toNatClampNeg)) s fun s24 =>
      bb_cV kB kE (kn s24 + 1) (f_B_init ((3 * i0 + x1.toNatClampNeg)) (kn s24) (kn s24 + 1) s24) s24 fun s28 =>
      bb_on s28 16 ((3 * i0 + x1.toNatClampNeg)) <|
      bb_sr s28 14 i0 3 x1 fun s31 =>
      lp_C_init_14 kB kE i0 k n (x1 + (1 : Int32)) s31
    )
set_option maxRecDepth 100000 in
set_option maxHeartbeats 4000000 in
theorem lp_C_init_14_ok {K : KK} {Γ : Cx} {q : Mem} (kB : Nat) (kE : Nat) (i0 : Nat)  (hk : kB ≤ kE ∧ kE ≤ 247) (k : Mem → RR) (G : GB K Γ b_C_init "VillageMail$Boxes" 2 2 40) (E : EndsB K Γ "<init>" kB kE q)
    (Kx : ∀  (s : Mem), k s = some (.inr none, q) → WB K Γ s 38 [(0, .ref (aa K 13 i0))] []) :
    ∀ (n : Nat) (x1 : Int32) (s : Mem), lp_C_init_14 kB kE i0 k n x1 s = some (.inr none, q) → WB K Γ s 14 [(0, .ref (aa K 13 i0)), (1, .int x1)] [] := by
  intro n
  induction n with
  | zero => intro _ _ h; exact nomatch h
  | succ n ih =>
    intro x1 s h
    unfold lp_C_init_14 at h
    refine wb_iload_n 1 G d_C_init_14 rfl rfl ?_
    refine wb_iconst (v := (3 : Int32)) G d_C_init_15 ic_3 ?_
    refine wb_icmpge (tgt := 38) G d_C_init_16 (by decide) h (fun h => ?_) (fun h => ?_)
    · skip
      refine wb_sub [0] rfl ?_
      exact Kx  _ h
    · skip
      refine wb_aload_n 0 G d_C_init_19 rfl rfl ?_
      refine wb_getr G fr_C_11 d_C_init_20 h (fun h => ?_)
      refine wb_iload_n 1 G d_C_init_23 rfl rfl ?_
      refine wb_new G E bn_C_9_16 d_C_init_24 h (fun s24 h => ?_)
      refine wb_dup G d_C_init_27 rfl ?_
      refine wb_callI (As := []) G E ci_C_17 (fun q1 h1 k1 => c_B_init ((3 * i0 + x1.toNatClampNeg)) _ q1 (by rw [k1]; exact h1)) rfl rfl (Nat.le_of_ble_eq_true rfl) d_C_init_28 (by decide) hk.2 h (fun s28 h => ?_)
      refine wb_aastore G aq_14 d_C_init_31 h (fun s31 h => ?_)
      refine wb_iinc 1 (L' := [(1, _), (0, _)]) G d_C_init_32 rfl ic_1 (by decide) rfl ?_
      refine wb_goto (tgt := 14) G d_C_init_35 (by decide) ?_
      refine wb_sub [1, 0] rfl ?_
      exact ih _ _ h
def f_C_init (i0 : Nat) (kB kE : Nat) (s : Mem) : RR :=
  bb_nw kB kE 14 i0 s fun s6 =>
  bb_pr s6 13 i0 0 fun s9 =>
  mm_lp (fun kk => lp_C_init_14 kB kE i0 kk FU ((0 : Int32)) s9) fun s14 =>
  bb_nw kB kE 15 i0 s14 fun s40 =>
  bb_pr s40 13 i0 1 fun s42 =>
  mm_rv s42
set_option maxRecDepth 100000 in
set_option maxHeartbeats 4000000 in
theorem c_C_init {l : Launch} {K : KK} (i0 : Nat) (s q : Mem) (h : f_C_init i0 (kn s) (kn q) s = some (.inr none, q)) : CtB l K y_C_init b_C_init 2 2 40 [.ref (aa K 13 i0)] s q := by
  refine CtB_of (own := "VillageMail$Boxes") (nm := "<init>") (L := [(0, _)]) (by decide +kernel) ⟨rfl, rfl⟩ (Nat.le_of_ble_eq_true rfl) rfl (fun Γ hk G E => ?_)
  unfold f_C_init at h
  refine wb_aload_n 0 G d_C_init_0 rfl rfl ?_
  refine wb_objinit G oi_C_3 (by decide) (Nat.le_of_ble_eq_true rfl) d_C_init_1 ?_
  refine wb_aload_n 0 G d_C_init_4 rfl rfl ?_
  refine wb_iconst (v := (3 : Int32)) G d_C_init_5 ic_3 ?_
  refine wb_newq G E bq_C_9_14 ⟨by decide, by decide, by decide⟩ d_C_init_6 h (fun s6 h => ?_)
  refine wb_putr G E fr_C_11 d_C_init_9 h (fun s9 h => ?_)
  refine wb_iconst (v := (0 : Int32)) G d_C_init_12 ic_0 ?_
  refine wb_istore_n (L' := [(1, _), (0, _)]) G d_C_init_13 rfl (by decide) rfl ?_
  refine wb_sub [1, 0] rfl ?_
  refine lp_C_init_14_ok _ _ i0 hk _ G E (fun s14 h => ?_) FU _ _ h
  refine wb_aload_n 0 G d_C_init_38 rfl rfl ?_
  refine wb_iconst (v := (2 : Int32)) G d_C_init_39 ic_2 ?_
  refine wb_newa G E bi_15 ⟨by decide, by decide, by decide⟩ d_C_init_40 h (fun s40 h => ?_)
  refine wb_putr G E fr_C_18 d_C_init_42 h (fun s42 h => ?_)
  exact wb_vret G E d_C_init_45 hk h
def f_L_init (i0 : Nat) (kB kE : Nat) (s : Mem) : RR :=
  bb_nw kB kE 20 i0 s fun s6 =>
  bb_pr s6 19 i0 10 fun s8 =>
  mm_rv s8
set_option maxRecDepth 100000 in
set_option maxHeartbeats 4000000 in
theorem c_L_init {l : Launch} {K : KK} (i0 : Nat) (s q : Mem) (h : f_L_init i0 (kn s) (kn q) s = some (.inr none, q)) : CtB l K y_L_init b_L_init 1 1 20 [.ref (aa K 19 i0)] s q := by
  refine CtB_of (own := "VillageMail$Letter") (nm := "<init>") (L := [(0, _)]) (by decide +kernel) ⟨rfl, rfl⟩ (Nat.le_of_ble_eq_true rfl) rfl (fun Γ hk G E => ?_)
  unfold f_L_init at h
  refine wb_aload_n 0 G d_L_init_0 rfl rfl ?_
  refine wb_objinit G oi_L_3 (by decide) (Nat.le_of_ble_eq_true rfl) d_L_init_1 ?_
  refine wb_aload_n 0 G d_L_init_4 rfl rfl ?_
  refine wb_iconst (v := (4 : Int32)) G d_L_init_5 ic_4 ?_
  refine wb_newa G E bi_20 ⟨by decide, by decide, by decide⟩ d_L_init_6 h (fun s6 h => ?_)
  refine wb_putr G E fr_L_9 d_L_init_8 h (fun s8 h => ?_)
  exact wb_vret G E d_L_init_11 hk h
def f_R_init (i0 : Nat) (kB kE : Nat) (s : Mem) : RR :=
  bb_nw kB kE 23 i0 s fun s7 =>
  bb_pr s7 22 i0 0 fun s9 =>
  bb_nw kB kE 24 i0 s9 fun s15 =>
  bb_pr s15 22 i0 1 fun s17 =>
  bb_nw kB kE 25 i0 s17 fun s22 =>
  bb_pr s22 22 i0 2 fun s24 =>
  mm_rv s24
set_option maxRecDepth 100000 in
set_option maxHeartbeats 4000000 in
theorem c_R_init {l : Launch} {K : KK} (i0 : Nat) (s q : Mem) (h : f_R_init i0 (kn s) (kn q) s = some (.inr none, q)) : CtB l K y_R_init b_R_init 1 1 20 [.ref (aa K 22 i0)] s q := by
  refine CtB_of (own := "VillageMail$Ride") (nm := "<init>") (L := [(0, _)]) (by decide +kernel) ⟨rfl, rfl⟩ (Nat.le_of_ble_eq_true rfl) rfl (fun Γ hk G E => ?_)
  unfold f_R_init at h
  refine wb_aload_n 0 G d_R_init_0 rfl rfl ?_
  refine wb_objinit G oi_R_3 (by decide) (Nat.le_of_ble_eq_true rfl) d_R_init_1 ?_
  refine wb_aload_n 0 G d_R_init_4 rfl rfl ?_
  refine wb_bipush (v := (8 : Int32)) G d_R_init_5 ib_8 ?_
  refine wb_newa G E bi_23 ⟨by decide, by decide, by decide⟩ d_R_init_7 h (fun s7 h => ?_)
  refine wb_putr G E fr_R_9 d_R_init_9 h (fun s9 h => ?_)
  refine wb_aload_n 0 G d_R_init_12 rfl rfl ?_
  refine wb_bipush (v := (8 : Int32)) G d_R_init_13 ib_8 ?_
  refine wb_newa G E bi_24 ⟨by decide, by decide, by decide⟩ d_R_init_15 h (fun s15 h => ?_)
  refine wb_putr G E fr_R_15 d_R_init_17 h (fun s17 h => ?_)
  refine wb_aload_n 0 G d_R_init_20 rfl rfl ?_
  refine wb_iconst (v := (4 : Int32)) G d_R_init_21 ic_4 ?_
  refine wb_newa G E bi_25 ⟨by decide, by decide, by decide⟩ d_R_init_22 h (fun s22 h => ?_)
  refine wb_putr G E fr_R_18 d_R_init_24 h (fun s24 h => ?_)
  exact wb_vret G E d_R_init_27 hk h
def f_O_init (i0 : Nat) (kB kE : Nat) (s : Mem) : RR :=
  bb_nw kB kE 27 i0 s fun s7 =>
  bb_pr s7 26 i0 0 fun s9 =>
  mm_rv s9
set_option maxRecDepth 100000 in
set_option maxHeartbeats 4000000 in
theorem c_O_init {l : Launch} {K : KK} (i0 : Nat) (s q : Mem) (h : f_O_init i0 (kn s) (kn q) s = some (.inr none, q)) : CtB l K y_O_init b_O_init 1 1 20 [.ref (aa K 26 i0)] s q := by
  refine CtB_of (own := "VillageMail$Offers") (nm := "<init>") (L := [(0, _)]) (by decide +kernel) ⟨rfl, rfl⟩ (Nat.le_of_ble_eq_true rfl) rfl (fun Γ hk G E => ?_)
  unfold f_O_init at h
  refine wb_aload_n 0 G d_O_init_0 rfl rfl ?_
  refine wb_objinit G oi_O_3 (by decide) (Nat.le_of_ble_eq_true rfl) d_O_init_1 ?_
  refine wb_aload_n 0 G d_O_init_4 rfl rfl ?_
  refine wb_bipush (v := (24 : Int32)) G d_O_init_5 ib_24 ?_
  refine wb_newa G E bi_27 ⟨by decide, by decide, by decide⟩ d_O_init_7 h (fun s7 h => ?_)
  refine wb_putr G E fr_O_9 d_O_init_9 h (fun s9 h => ?_)
  exact wb_vret G E d_O_init_12 hk h
def lp_X_init_26 (kB : Nat) (kE : Nat) (k : Mem → RR) : Nat → Int32 → Mem → RR
  | 0, _, _ => none
  | n + 1, x1, s =>
    if ((6 : Int32)) < x1 then (
      k s
    ) else (
      bb_gr s 0 0 2 <|
      bb_nw kB kE 1 x1.toNatClampNeg s fun s37 =>
      bb_cV kB kE (kn s37 + 3) (f_T_init x1.toNatClampNeg (kn s37) (kn s37 + 3) s37) s37 fun s41 =>
      bb_on s41 1 x1.toNatClampNeg <|
      bb_sr s41 5 0 7 x1 fun s44 =>
      lp_X_init_26 kB kE k n (x1 + (1 : Int32)) s44
    )
set_option maxRecDepth 100000 in
set_option maxHeartbeats 4000000 in
theorem lp_X_init_26_ok {K : KK} {Γ : Cx} {q : Mem} (kB : Nat) (kE : Nat)  (hk : kB ≤ kE ∧ kE ≤ 247) (k : Mem → RR) (G : GB K Γ b_X_init "VillageMail" 2 3 61) (E : EndsB K Γ "<init>" kB kE q)
    (Kx : ∀  (s : Mem), k s = some (.inr none, q) → WB K Γ s 51 [(0, .ref (aa K 0 0))] []) :
    ∀ (n : Nat) (x1 : Int32) (s : Mem), lp_X_init_26 kB kE k n x1 s = some (.inr none, q) → WB K Γ s 26 [(0, .ref (aa K 0 0)), (1, .int x1)] [] := by
  intro n
  induction n with
  | zero => intro _ _ h; exact nomatch h
  | succ n ih =>
    intro x1 s h
    unfold lp_X_init_26 at h
    refine wb_iload_n 1 G d_X_init_26 rfl rfl ?_
    refine wb_bipush (v := (6 : Int32)) G d_X_init_27 ib_6 ?_
    refine wb_icmpgt (tgt := 51) G d_X_init_29 (by decide) h (fun h => ?_) (fun h => ?_)
    · skip
      refine wb_sub [0] rfl ?_
      exact Kx  _ h
    · skip
      refine wb_aload_n 0 G d_X_init_32 rfl rfl ?_
      refine wb_getr G fr_X_16 d_X_init_33 h (fun h => ?_)
      refine wb_iload_n 1 G d_X_init_36 rfl rfl ?_
      refine wb_new G E bn_X_9_1 d_X_init_37 h (fun s37 h => ?_)
      refine wb_dup G d_X_init_40 rfl ?_
      refine wb_callI (As := []) G E ci_X_11 (fun q1 h1 k1 => c_T_init x1.toNatClampNeg _ q1 (by rw [k1]; exact h1)) rfl rfl (Nat.le_of_ble_eq_true rfl) d_X_init_41 (by decide) hk.2 h (fun s41 h => ?_)
      refine wb_aastore G aq_5 d_X_init_44 h (fun s44 h => ?_)
      refine wb_iinc 1 (L' := [(1, _), (0, _)]) G d_X_init_45 rfl ic_1 (by decide) rfl ?_
      refine wb_goto (tgt := 26) G d_X_init_48 (by decide) ?_
      refine wb_sub [1, 0] rfl ?_
      exact ih _ _ h
def lp_X_init_62 (kB : Nat) (kE : Nat) (k : Mem → RR) : Nat → Int32 → Mem → RR
  | 0, _, _ => none
  | n + 1, x1, s =>
    if ((12 : Int32)) ≤ x1 then (
      k s
    ) else (
      bb_gr s 0 0 4 <|
      bb_nw kB kE 7 x1.toNatClampNeg s fun s73 =>
      if ((8 : Int32)) ≤ x1 then (
        bb_cV kB kE (kn s73 + 4) (f_S_init x1.toNatClampNeg ((10 : Int32)) (kn s73) (kn s73 + 4) s73) s73 fun s90 =>
        bb_on s90 7 x1.toNatClampNeg <|
        bb_sr s90 6 0 12 x1 fun s93 =>
        lp_X_init_62 kB kE k n (x1 + (1 : Int32)) s93
      ) else (
        bb_cV kB kE (kn s73 + 4) (f_S_init x1.toNatClampNeg ((24 : Int32)) (kn s73) (kn s73 + 4) s73) s73 fun s90 =>
        bb_on s90 7 x1.toNatClampNeg <|
        bb_sr s90 6 0 12 x1 fun s93 =>
        lp_X_init_62 kB kE k n (x1 + (1 : Int32)) s93
      )
    )
set_option maxRecDepth 100000 in
set_option maxHeartbeats 4000000 in
theorem lp_X_init_62_ok {K : KK} {Γ : Cx} {q : Mem} (kB : Nat) (kE : Nat)  (hk : kB ≤ kE ∧ kE ≤ 247) (k : Mem → RR) (G : GB K Γ b_X_init "VillageMail" 2 3 61) (E : EndsB K Γ "<init>" kB kE q)
    (Kx : ∀  (s : Mem), k s = some (.inr none, q) → WB K Γ s 100 [(0, .ref (aa K 0 0))] []) :
    ∀ (n : Nat) (x1 : Int32) (s : Mem), lp_X_init_62 kB kE k n x1 s = some (.inr none, q) → WB K Γ s 62 [(0, .ref (aa K 0 0)), (1, .int x1)] [] := by
  intro n
  induction n with
  | zero => intro _ _ h; exact nomatch h
  | succ n ih =>
    intro x1 s h
    unfold lp_X_init_62 at h
    refine wb_iload_n 1 G d_X_init_62 rfl rfl ?_
    refine wb_bipush (v := (12 : Int32)) G d_X_init_63 ib_12 ?_
    refine wb_icmpge (tgt := 100) G d_X_init_65 (by decide) h (fun h => ?_) (fun h => ?_)
    · skip
      refine wb_sub [0] rfl ?_
      exact Kx  _ h
    · skip
      refine wb_aload_n 0 G d_X_init_68 rfl rfl ?_
      refine wb_getr G fr_X_22 d_X_init_69 h (fun h => ?_)
      refine wb_iload_n 1 G d_X_init_72 rfl rfl ?_
      refine wb_new G E bn_X_20_7 d_X_init_73 h (fun s73 h => ?_)
      refine wb_dup G d_X_init_76 rfl ?_
      refine wb_iload_n 1 G d_X_init_77 rfl rfl ?_
      refine wb_bipush (v := (8 : Int32)) G d_X_init_78 ib_8 ?_
      refine wb_icmpge (tgt := 88) G d_X_init_80 (by decide) h (fun h => ?_) (fun h => ?_)
      · skip
        refine wb_bipush (v := (10 : Int32)) G d_X_init_88 ib_10 ?_
        refine wb_callI (As := [_]) G E ci_X_26 (fun q1 h1 k1 => c_S_init x1.toNatClampNeg ((10 : Int32)) _ q1 (by rw [k1]; exact h1)) rfl rfl (Nat.le_of_ble_eq_true rfl) d_X_init_90 (by decide) hk.2 h (fun s90 h => ?_)
        refine wb_aastore G aq_6 d_X_init_93 h (fun s93 h => ?_)
        refine wb_iinc 1 (L' := [(1, _), (0, _)]) G d_X_init_94 rfl ic_1 (by decide) rfl ?_
        refine wb_goto (tgt := 62) G d_X_init_97 (by decide) ?_
        refine wb_sub [1, 0] rfl ?_
        exact ih _ _ h
      · skip
        refine wb_bipush (v := (24 : Int32)) G d_X_init_83 ib_24 ?_
        refine wb_goto (tgt := 90) G d_X_init_85 (by decide) ?_
        refine wb_callI (As := [_]) G E ci_X_26 (fun q1 h1 k1 => c_S_init x1.toNatClampNeg ((24 : Int32)) _ q1 (by rw [k1]; exact h1)) rfl rfl (Nat.le_of_ble_eq_true rfl) d_X_init_90 (by decide) hk.2 h (fun s90 h => ?_)
        refine wb_aastore G aq_6 d_X_init_93 h (fun s93 h => ?_)
        refine wb_iinc 1 (L' := [(1, _), (0, _)]) G d_X_init_94 rfl ic_1 (by decide) rfl ?_
        refine wb_goto (tgt := 62) G d_X_init_97 (by decide) ?_
        refine wb_sub [1, 0] rfl ?_
        exact ih _ _ h
def lp_X_init_111 (kB : Nat) (kE : Nat) (k : Mem → RR) : Nat → Int32 → Mem → RR
  | 0, _, _ => none
  | n + 1, x1, s =>
    if ((8 : Int32)) ≤ x1 then (
      k s
    ) else (
      bb_gr s 0 0 5 <|
      bb_nw kB kE 13 x1.toNatClampNeg s fun s122 =>
      bb_cV kB kE (kn s122 + 8) (f_C_init x1.toNatClampNeg (kn s122) (kn s122 + 8) s122) s122 fun s126 =>
      bb_on s126 13 x1.toNatClampNeg <|
      bb_sr s126 12 0 8 x1 fun s129 =>
      lp_X_init_111 kB kE k n (x1 + (1 : Int32)) s129
    )
set_option maxRecDepth 100000 in
set_option maxHeartbeats 4000000 in
theorem lp_X_init_111_ok {K : KK} {Γ : Cx} {q : Mem} (kB : Nat) (kE : Nat)  (hk : kB ≤ kE ∧ kE ≤ 247) (k : Mem → RR) (G : GB K Γ b_X_init "VillageMail" 2 3 61) (E : EndsB K Γ "<init>" kB kE q)
    (Kx : ∀  (s : Mem), k s = some (.inr none, q) → WB K Γ s 136 [(0, .ref (aa K 0 0))] []) :
    ∀ (n : Nat) (x1 : Int32) (s : Mem), lp_X_init_111 kB kE k n x1 s = some (.inr none, q) → WB K Γ s 111 [(0, .ref (aa K 0 0)), (1, .int x1)] [] := by
  intro n
  induction n with
  | zero => intro _ _ h; exact nomatch h
  | succ n ih =>
    intro x1 s h
    unfold lp_X_init_111 at h
    refine wb_iload_n 1 G d_X_init_111 rfl rfl ?_
    refine wb_bipush (v := (8 : Int32)) G d_X_init_112 ib_8 ?_
    refine wb_icmpge (tgt := 136) G d_X_init_114 (by decide) h (fun h => ?_) (fun h => ?_)
    · skip
      refine wb_sub [0] rfl ?_
      exact Kx  _ h
    · skip
      refine wb_aload_n 0 G d_X_init_117 rfl rfl ?_
      refine wb_getr G fr_X_31 d_X_init_118 h (fun h => ?_)
      refine wb_iload_n 1 G d_X_init_121 rfl rfl ?_
      refine wb_new G E bn_X_29_13 d_X_init_122 h (fun s122 h => ?_)
      refine wb_dup G d_X_init_125 rfl ?_
      refine wb_callI (As := []) G E ci_X_35 (fun q1 h1 k1 => c_C_init x1.toNatClampNeg _ q1 (by rw [k1]; exact h1)) rfl rfl (Nat.le_of_ble_eq_true rfl) d_X_init_126 (by decide) hk.2 h (fun s126 h => ?_)
      refine wb_aastore G aq_12 d_X_init_129 h (fun s129 h => ?_)
      refine wb_iinc 1 (L' := [(1, _), (0, _)]) G d_X_init_130 rfl ic_1 (by decide) rfl ?_
      refine wb_goto (tgt := 111) G d_X_init_133 (by decide) ?_
      refine wb_sub [1, 0] rfl ?_
      exact ih _ _ h
def lp_X_init_147 (kB : Nat) (kE : Nat) (k : Mem → RR) : Nat → Int32 → Mem → RR
  | 0, _, _ => none
  | n + 1, x1, s =>
    if ((16 : Int32)) ≤ x1 then (
      k s
    ) else (
      bb_gr s 0 0 6 <|
      bb_nw kB kE 19 x1.toNatClampNeg s fun s158 =>
      bb_cV kB kE (kn s158 + 1) (f_L_init x1.toNatClampNeg (kn s158) (kn s158 + 1) s158) s158 fun s162 =>
      bb_on s162 19 x1.toNatClampNeg <|
      bb_sr s162 18 0 16 x1 fun s165 =>
      lp_X_init_147 kB kE k n (x1 + (1 : Int32)) s165
    )
set_option maxRecDepth 100000 in
set_option maxHeartbeats 4000000 in
theorem lp_X_init_147_ok {K : KK} {Γ : Cx} {q : Mem} (kB : Nat) (kE : Nat)  (hk : kB ≤ kE ∧ kE ≤ 247) (k : Mem → RR) (G : GB K Γ b_X_init "VillageMail" 2 3 61) (E : EndsB K Γ "<init>" kB kE q)
    (Kx : ∀  (s : Mem), k s = some (.inr none, q) → WB K Γ s 172 [(0, .ref (aa K 0 0))] []) :
    ∀ (n : Nat) (x1 : Int32) (s : Mem), lp_X_init_147 kB kE k n x1 s = some (.inr none, q) → WB K Γ s 147 [(0, .ref (aa K 0 0)), (1, .int x1)] [] := by
  intro n
  induction n with
  | zero => intro _ _ h; exact nomatch h
  | succ n ih =>
    intro x1 s h
    unfold lp_X_init_147 at h
    refine wb_iload_n 1 G d_X_init_147 rfl rfl ?_
    refine wb_bipush (v := (16 : Int32)) G d_X_init_148 ib_16 ?_
    refine wb_icmpge (tgt := 172) G d_X_init_150 (by decide) h (fun h => ?_) (fun h => ?_)
    · skip
      refine wb_sub [0] rfl ?_
      exact Kx  _ h
    · skip
      refine wb_aload_n 0 G d_X_init_153 rfl rfl ?_
      refine wb_getr G fr_X_38 d_X_init_154 h (fun h => ?_)
      refine wb_iload_n 1 G d_X_init_157 rfl rfl ?_
      refine wb_new G E bn_X_36_19 d_X_init_158 h (fun s158 h => ?_)
      refine wb_dup G d_X_init_161 rfl ?_
      refine wb_callI (As := []) G E ci_X_42 (fun q1 h1 k1 => c_L_init x1.toNatClampNeg _ q1 (by rw [k1]; exact h1)) rfl rfl (Nat.le_of_ble_eq_true rfl) d_X_init_162 (by decide) hk.2 h (fun s162 h => ?_)
      refine wb_aastore G aq_18 d_X_init_165 h (fun s165 h => ?_)
      refine wb_iinc 1 (L' := [(1, _), (0, _)]) G d_X_init_166 rfl ic_1 (by decide) rfl ?_
      refine wb_goto (tgt := 147) G d_X_init_169 (by decide) ?_
      refine wb_sub [1, 0] rfl ?_
      exact ih _ _ h
def f_X_init  (kB kE : Nat) (s : Mem) : RR :=
  bb_nw kB kE 1 7 s fun s5 =>
  bb_cV kB kE (kn s5 + 3) (f_T_init 7 (kn s5) (kn s5 + 3) s5) s5 fun s9 =>
  bb_pr s9 0 0 1 fun s12 =>
  bb_nw kB kE 5 0 s12 fun s18 =>
  bb_pr s18 0 0 2 fun s21 =>
  mm_lp (fun kk => lp_X_init_26 kB kE kk FU ((0 : Int32)) s21) fun s26 =>
  bb_nw kB kE 6 0 s26 fun s54 =>
  bb_pr s54 0 0 4 fun s57 =>
  mm_lp (fun kk => lp_X_init_62 kB kE kk FU ((0 : Int32)) s57) fun s62 =>
  bb_nw kB kE 12 0 s62 fun s103 =>
  bb_pr s103 0 0 5 fun s106 =>
  mm_lp (fun kk => lp_X_init_111 kB kE kk FU ((0 : Int32)) s106) fun s111 =>
  bb_nw kB kE 18 0 s111 fun s139 =>
  bb_pr s139 0 0 6 fun s142 =>
  mm_lp (fun kk => lp_X_init_147 kB kE kk FU ((0 : Int32)) s142) fun s147 =>
  bb_nw kB kE 21 0 s147 fun s174 =>
  bb_pr s174 0 0 8 fun s176 =>
  bb_nw kB kE 22 0 s176 fun s180 =>
  bb_cV kB kE (kn s180 + 3) (f_R_init 0 (kn s180) (kn s180 + 3) s180) s180 fun s184 =>
  bb_pr s184 0 0 10 fun s187 =>
  bb_nw kB kE 22 1 s187 fun s191 =>
  bb_cV kB kE (kn s191 + 3) (f_R_init 1 (kn s191) (kn s191 + 3) s191) s191 fun s195 =>
  bb_pr s195 0 0 11 fun s198 =>
  bb_nw kB kE 26 0 s198 fun s202 =>
  bb_cV kB kE (kn s202 + 1) (f_O_init 0 (kn s202) (kn s202 + 1) s202) s202 fun s206 =>
  bb_pr s206 0 0 12 fun s209 =>
  bb_nw kB kE 26 1 s209 fun s213 =>
  bb_cV kB kE (kn s213 + 1) (f_O_init 1 (kn s213) (kn s213 + 1) s213) s213 fun s217 =>
  bb_pr s217 0 0 13 fun s220 =>
  mm_rv s220
set_option maxRecDepth 100000 in
set_option maxHeartbeats 4000000 in
theorem c_X_init {l : Launch} {K : KK}  (s q : Mem) (h : f_X_init (kn s) (kn q) s = some (.inr none, q)) : CtB l K y_X_init b_X_init 2 3 61 [.ref (aa K 0 0)] s q := by
  refine CtB_of (own := "VillageMail") (nm := "<init>") (L := [(0, _)]) (by decide +kernel) ⟨rfl, rfl⟩ (Nat.le_of_ble_eq_true rfl) rfl (fun Γ hk G E => ?_)
  unfold f_X_init at h
  refine wb_aload_n 0 G d_X_init_0 rfl rfl ?_
  refine wb_objinit G oi_X_3 (by decide) (Nat.le_of_ble_eq_true rfl) d_X_init_1 ?_
  refine wb_aload_n 0 G d_X_init_4 rfl rfl ?_
  refine wb_new G E bn_X_9_1 d_X_init_5 h (fun s5 h => ?_)
  refine wb_dup G d_X_init_8 rfl ?_
  refine wb_callI (As := []) G E ci_X_11 (fun q1 h1 k1 => c_T_init 7 _ q1 (by rw [k1]; exact h1)) rfl rfl (Nat.le_of_ble_eq_true rfl) d_X_init_9 (by decide) hk.2 h (fun s9 h => ?_)
  refine wb_putr G E fr_X_12 d_X_init_12 h (fun s12 h => ?_)
  refine wb_aload_n 0 G d_X_init_15 rfl rfl ?_
  refine wb_bipush (v := (7 : Int32)) G d_X_init_16 ib_7 ?_
  refine wb_newq G E bq_X_9_5 ⟨by decide, by decide, by decide⟩ d_X_init_18 h (fun s18 h => ?_)
  refine wb_putr G E fr_X_16 d_X_init_21 h (fun s21 h => ?_)
  refine wb_iconst (v := (0 : Int32)) G d_X_init_24 ic_0 ?_
  refine wb_istore_n (L' := [(1, _), (0, _)]) G d_X_init_25 rfl (by decide) rfl ?_
  refine wb_sub [1, 0] rfl ?_
  refine lp_X_init_26_ok _ _ hk _ G E (fun s26 h => ?_) FU _ _ h
  refine wb_aload_n 0 G d_X_init_51 rfl rfl ?_
  refine wb_bipush (v := (12 : Int32)) G d_X_init_52 ib_12 ?_
  refine wb_newq G E bq_X_20_6 ⟨by decide, by decide, by decide⟩ d_X_init_54 h (fun s54 h => ?_)
  refine wb_putr G E fr_X_22 d_X_init_57 h (fun s57 h => ?_)
  refine wb_iconst (v := (0 : Int32)) G d_X_init_60 ic_0 ?_
  refine wb_istore_n (L' := [(1, _), (0, _)]) G d_X_init_61 rfl (by decide) rfl ?_
  refine wb_sub [1, 0] rfl ?_
  refine lp_X_init_62_ok _ _ hk _ G E (fun s62 h => ?_) FU _ _ h
  refine wb_aload_n 0 G d_X_init_100 rfl rfl ?_
  refine wb_bipush (v := (8 : Int32)) G d_X_init_101 ib_8 ?_
  refine wb_newq G E bq_X_29_12 ⟨by decide, by decide, by decide⟩ d_X_init_103 h (fun s103 h => ?_)
  refine wb_putr G E fr_X_31 d_X_init_106 h (fun s106 h => ?_)
  refine wb_iconst (v := (0 : Int32)) G d_X_init_109 ic_0 ?_
  refine wb_istore_n (L' := [(1, _), (0, _)]) G d_X_init_110 rfl (by decide) rfl ?_
  refine wb_sub [1, 0] rfl ?_
  refine lp_X_init_111_ok _ _ hk _ G E (fun s111 h => ?_) FU _ _ h
  refine wb_aload_n 0 G d_X_init_136 rfl rfl ?_
  refine wb_bipush (v := (16 : Int32)) G d_X_init_137 ib_16 ?_
  refine wb_newq G E bq_X_36_18 ⟨by decide, by decide, by decide⟩ d_X_init_139 h (fun s139 h => ?_)
  refine wb_putr G E fr_X_38 d_X_init_142 h (fun s142 h => ?_)
  refine wb_iconst (v := (0 : Int32)) G d_X_init_145 ic_0 ?_
  refine wb_istore_n (L' := [(1, _), (0, _)]) G d_X_init_146 rfl (by decide) rfl ?_
  refine wb_sub [1, 0] rfl ?_
  refine lp_X_init_147_ok _ _ hk _ G E (fun s147 h => ?_) FU _ _ h
  refine wb_aload_n 0 G d_X_init_172 rfl rfl ?_
  refine wb_iconst (v := (4 : Int32)) G d_X_init_173 ic_4 ?_
  refine wb_newa G E bi_21 ⟨by decide, by decide, by decide⟩ d_X_init_174 h (fun s174 h => ?_)
  refine wb_putr G E fr_X_43 d_X_init_176 h (fun s176 h => ?_)
  refine wb_aload_n 0 G d_X_init_179 rfl rfl ?_
  refine wb_new G E bn_X_47_22 d_X_init_180 h (fun s180 h => ?_)
  refine wb_dup G d_X_init_183 rfl ?_
  refine wb_callI (As := []) G E ci_X_49 (fun q1 h1 k1 => c_R_init 0 _ q1 (by rw [k1]; exact h1)) rfl rfl (Nat.le_of_ble_eq_true rfl) d_X_init_184 (by decide) hk.2 h (fun s184 h => ?_)
  refine wb_putr G E fr_X_50 d_X_init_187 h (fun s187 h => ?_)
  refine wb_aload_n 0 G d_X_init_190 rfl rfl ?_
  refine wb_new G E bn_X_47_22 d_X_init_191 h (fun s191 h => ?_)
  refine wb_dup G d_X_init_194 rfl ?_
  refine wb_callI (As := []) G E ci_X_49 (fun q1 h1 k1 => c_R_init 1 _ q1 (by rw [k1]; exact h1)) rfl rfl (Nat.le_of_ble_eq_true rfl) d_X_init_195 (by decide) hk.2 h (fun s195 h => ?_)
  refine wb_putr G E fr_X_54 d_X_init_198 h (fun s198 h => ?_)
  refine wb_aload_n 0 G d_X_init_201 rfl rfl ?_
  refine wb_new G E bn_X_57_26 d_X_init_202 h (fun s202 h => ?_)
  refine wb_dup G d_X_init_205 rfl ?_
  refine wb_callI (As := []) G E ci_X_59 (fun q1 h1 k1 => c_O_init 0 _ q1 (by rw [k1]; exact h1)) rfl rfl (Nat.le_of_ble_eq_true rfl) d_X_init_206 (by decide) hk.2 h (fun s206 h => ?_)
  refine wb_putr G E fr_X_60 d_X_init_209 h (fun s209 h => ?_)
  refine wb_aload_n 0 G d_X_init_212 rfl rfl ?_
  refine wb_new G E bn_X_57_26 d_X_init_213 h (fun s213 h => ?_)
  refine wb_dup G d_X_init_216 rfl ?_
  refine wb_callI (As := []) G E ci_X_59 (fun q1 h1 k1 => c_O_init 1 _ q1 (by rw [k1]; exact h1)) rfl rfl (Nat.le_of_ble_eq_true rfl) d_X_init_217 (by decide) hk.2 h (fun s217 h => ?_)
  refine wb_putr G E fr_X_64 d_X_init_220 h (fun s220 h => ?_)
  exact wb_vret G E d_X_init_223 hk h
def lp_M_init_264 (kB : Nat) (kE : Nat) (k : Mem → RR) : Nat → Int32 → Mem → RR
  | 0, _, _ => none
  | n + 1, x1, s =>
    if ((24 : Int32)) ≤ x1 then (
      k s
    ) else (
      bb_gr s 30 0 25 <|
      bb_st s 53 0 24 x1 ((-1 : Int32)) fun s276 =>
      lp_M_init_264 kB kE k n (x1 + (1 : Int32)) s276
    )
set_option maxRecDepth 100000 in
set_option maxHeartbeats 4000000 in
theorem lp_M_init_264_ok {K : KK} {Γ : Cx} {q : Mem} (kB : Nat) (kE : Nat)  (hk : kB ≤ kE ∧ kE ≤ 247) (k : Mem → RR) (G : GB K Γ b_M_init "VillageMailModel" 2 1 20) (E : EndsB K Γ "<init>" kB kE q)
    (Kx : ∀  (s : Mem), k s = some (.inr none, q) → WB K Γ s 283 [] []) :
    ∀ (n : Nat) (x1 : Int32) (s : Mem), lp_M_init_264 kB kE k n x1 s = some (.inr none, q) → WB K Γ s 264 [(0, .ref (aa K 30 0)), (1, .int x1)] [] := by
  intro n
  induction n with
  | zero => intro _ _ h; exact nomatch h
  | succ n ih =>
    intro x1 s h
    unfold lp_M_init_264 at h
    refine wb_iload_n 1 G d_M_init_264 rfl rfl ?_
    refine wb_bipush (v := (24 : Int32)) G d_M_init_265 ib_24 ?_
    refine wb_icmpge (tgt := 283) G d_M_init_267 (by decide) h (fun h => ?_) (fun h => ?_)
    · skip
      refine wb_sub [] rfl ?_
      exact Kx  _ h
    · skip
      refine wb_aload_n 0 G d_M_init_270 rfl rfl ?_
      refine wb_getr G fr_M_77 d_M_init_271 h (fun h => ?_)
      refine wb_iload_n 1 G d_M_init_274 rfl rfl ?_
      refine wb_iconst (v := (-1 : Int32)) G d_M_init_275 ic_m1 ?_
      refine wb_iastore G ai_53 d_M_init_276 h (fun s276 h => ?_)
      refine wb_iinc 1 (L' := [(1, _), (0, _)]) G d_M_init_277 rfl ic_1 (by decide) rfl ?_
      refine wb_goto (tgt := 264) G d_M_init_280 (by decide) ?_
      refine wb_sub [1, 0] rfl ?_
      exact ih _ _ h
def f_M_init  (kB kE : Nat) (s : Mem) : RR :=
  bb_nw kB kE 31 0 s fun s8 =>
  bb_pr s8 30 0 0 fun s10 =>
  bb_nw kB kE 32 0 s10 fun s17 =>
  bb_pr s17 30 0 1 fun s19 =>
  bb_nw kB kE 33 0 s19 fun s26 =>
  bb_pr s26 30 0 2 fun s28 =>
  bb_nw kB kE 34 0 s28 fun s34 =>
  bb_pr s34 30 0 3 fun s36 =>
  bb_nw kB kE 35 0 s36 fun s42 =>
  bb_pr s42 30 0 6 fun s44 =>
  bb_nw kB kE 36 0 s44 fun s50 =>
  bb_pr s50 30 0 8 fun s52 =>
  bb_nw kB kE 37 0 s52 fun s58 =>
  bb_pr s58 30 0 9 fun s60 =>
  bb_nw kB kE 38 0 s60 fun s66 =>
  bb_pr s66 30 0 10 fun s68 =>
  bb_nw kB kE 39 0 s68 fun s74 =>
  bb_pr s74 30 0 11 fun s76 =>
  bb_nw kB kE 40 0 s76 fun s82 =>
  bb_pr s82 30 0 12 fun s84 =>
  bb_nw kB kE 41 0 s84 fun s90 =>
  bb_pr s90 30 0 13 fun s92 =>
  bb_nw kB kE 42 0 s92 fun s98 =>
  bb_pr s98 30 0 14 fun s100 =>
  bb_nw kB kE 43 0 s100 fun s106 =>
  bb_pr s106 30 0 15 fun s108 =>
  bb_nw kB kE 44 0 s108 fun s114 =>
  bb_pr s114 30 0 16 fun s116 =>
  bb_nw kB kE 45 0 s116 fun s123 =>
  bb_pr s123 30 0 17 fun s125 =>
  bb_nw kB kE 46 0 s125 fun s132 =>
  bb_pr s132 30 0 18 fun s134 =>
  bb_nw kB kE 47 0 s134 fun s141 =>
  bb_pr s141 30 0 19 fun s143 =>
  bb_nw kB kE 48 0 s143 fun s150 =>
  bb_pr s150 30 0 20 fun s152 =>
  bb_nw kB kE 49 0 s152 fun s159 =>
  bb_pr s159 30 0 21 fun s161 =>
  bb_nw kB kE 50 0 s161 fun s168 =>
  bb_pr s168 30 0 22 fun s170 =>
  bb_nw kB kE 51 0 s170 fun s176 =>
  bb_pr s176 30 0 23 fun s178 =>
  bb_nw kB kE 52 0 s178 fun s184 =>
  bb_pr s184 30 0 24 fun s186 =>
  bb_nw kB kE 53 0 s186 fun s192 =>
  bb_pr s192 30 0 25 fun s194 =>
  bb_nw kB kE 54 0 s194 fun s200 =>
  bb_pr s200 30 0 26 fun s202 =>
  bb_nw kB kE 55 0 s202 fun s209 =>
  bb_pr s209 30 0 27 fun s211 =>
  bb_nw kB kE 56 0 s211 fun s217 =>
  bb_pr s217 30 0 28 fun s219 =>
  bb_nw kB kE 57 0 s219 fun s225 =>
  bb_pr s225 30 0 29 fun s227 =>
  bb_nw kB kE 58 0 s227 fun s232 =>
  bb_pr s232 30 0 32 fun s234 =>
  bb_nw kB kE 59 0 s234 fun s240 =>
  bb_pr s240 30 0 33 fun s242 =>
  bb_nw kB kE 60 0 s242 fun s249 =>
  bb_pr s249 30 0 34 fun s251 =>
  bb_nw kB kE 61 0 s251 fun s257 =>
  bb_pr s257 30 0 37 fun s259 =>
  mm_lp (fun kk => lp_M_init_264 kB kE kk FU ((0 : Int32)) s259) fun s264 =>
  mm_rv s264
set_option maxRecDepth 100000 in
set_option maxHeartbeats 4000000 in
theorem c_M_init {l : Launch} {K : KK}  (s q : Mem) (h : f_M_init (kn s) (kn q) s = some (.inr none, q)) : CtB l K y_M_init b_M_init 2 1 20 [.ref (aa K 30 0)] s q := by
  refine CtB_of (own := "VillageMailModel") (nm := "<init>") (L := [(0, _)]) (by decide +kernel) ⟨rfl, rfl⟩ (Nat.le_of_ble_eq_true rfl) rfl (fun Γ hk G E => ?_)
  unfold f_M_init at h
  refine wb_aload_n 0 G d_M_init_0 rfl rfl ?_
  refine wb_objinit G oi_M_1 (by decide) (Nat.le_of_ble_eq_true rfl) d_M_init_1 ?_
  refine wb_aload_n 0 G d_M_init_4 rfl rfl ?_
  refine wb_sipush (v := (192 : Int32)) G d_M_init_5 is_192 ?_
  refine wb_newa G E bi_31 ⟨by decide, by decide, by decide⟩ d_M_init_8 h (fun s8 h => ?_)
  refine wb_putr G E fr_M_7 d_M_init_10 h (fun s10 h => ?_)
  refine wb_aload_n 0 G d_M_init_13 rfl rfl ?_
  refine wb_sipush (v := (192 : Int32)) G d_M_init_14 is_192 ?_
  refine wb_newa G E bi_32 ⟨by decide, by decide, by decide⟩ d_M_init_17 h (fun s17 h => ?_)
  refine wb_putr G E fr_M_13 d_M_init_19 h (fun s19 h => ?_)
  refine wb_aload_n 0 G d_M_init_22 rfl rfl ?_
  refine wb_sipush (v := (192 : Int32)) G d_M_init_23 is_192 ?_
  refine wb_newa G E bi_33 ⟨by decide, by decide, by decide⟩ d_M_init_26 h (fun s26 h => ?_)
  refine wb_putr G E fr_M_16 d_M_init_28 h (fun s28 h => ?_)
  refine wb_aload_n 0 G d_M_init_31 rfl rfl ?_
  refine wb_bipush (v := (8 : Int32)) G d_M_init_32 ib_8 ?_
  refine wb_newa G E bi_34 ⟨by decide, by decide, by decide⟩ d_M_init_34 h (fun s34 h => ?_)
  refine wb_putr G E fr_M_19 d_M_init_36 h (fun s36 h => ?_)
  refine wb_aload_n 0 G d_M_init_39 rfl rfl ?_
  refine wb_bipush (v := (12 : Int32)) G d_M_init_40 ib_12 ?_
  refine wb_newa G E bi_35 ⟨by decide, by decide, by decide⟩ d_M_init_42 h (fun s42 h => ?_)
  refine wb_putr G E fr_M_22 d_M_init_44 h (fun s44 h => ?_)
  refine wb_aload_n 0 G d_M_init_47 rfl rfl ?_
  refine wb_bipush (v := (16 : Int32)) G d_M_init_48 ib_16 ?_
  refine wb_newa G E bi_36 ⟨by decide, by decide, by decide⟩ d_M_init_50 h (fun s50 h => ?_)
  refine wb_putr G E fr_M_25 d_M_init_52 h (fun s52 h => ?_)
  refine wb_aload_n 0 G d_M_init_55 rfl rfl ?_
  refine wb_bipush (v := (16 : Int32)) G d_M_init_56 ib_16 ?_
  refine wb_newa G E bi_37 ⟨by decide, by decide, by decide⟩ d_M_init_58 h (fun s58 h => ?_)
  refine wb_putr G E fr_M_28 d_M_init_60 h (fun s60 h => ?_)
  refine wb_aload_n 0 G d_M_init_63 rfl rfl ?_
  refine wb_bipush (v := (16 : Int32)) G d_M_init_64 ib_16 ?_
  refine wb_newa G E bi_38 ⟨by decide, by decide, by decide⟩ d_M_init_66 h (fun s66 h => ?_)
  refine wb_putr G E fr_M_31 d_M_init_68 h (fun s68 h => ?_)
  refine wb_aload_n 0 G d_M_init_71 rfl rfl ?_
  refine wb_bipush (v := (16 : Int32)) G d_M_init_72 ib_16 ?_
  refine wb_newa G E bi_39 ⟨by decide, by decide, by decide⟩ d_M_init_74 h (fun s74 h => ?_)
  refine wb_putr G E fr_M_34 d_M_init_76 h (fun s76 h => ?_)
  refine wb_aload_n 0 G d_M_init_79 rfl rfl ?_
  refine wb_bipush (v := (16 : Int32)) G d_M_init_80 ib_16 ?_
  refine wb_newa G E bi_40 ⟨by decide, by decide, by decide⟩ d_M_init_82 h (fun s82 h => ?_)
  refine wb_putr G E fr_M_37 d_M_init_84 h (fun s84 h => ?_)
  refine wb_aload_n 0 G d_M_init_87 rfl rfl ?_
  refine wb_bipush (v := (16 : Int32)) G d_M_init_88 ib_16 ?_
  refine wb_newa G E bi_41 ⟨by decide, by decide, by decide⟩ d_M_init_90 h (fun s90 h => ?_)
  refine wb_putr G E fr_M_40 d_M_init_92 h (fun s92 h => ?_)
  refine wb_aload_n 0 G d_M_init_95 rfl rfl ?_
  refine wb_bipush (v := (16 : Int32)) G d_M_init_96 ib_16 ?_
  refine wb_newa G E bi_42 ⟨by decide, by decide, by decide⟩ d_M_init_98 h (fun s98 h => ?_)
  refine wb_putr G E fr_M_43 d_M_init_100 h (fun s100 h => ?_)
  refine wb_aload_n 0 G d_M_init_103 rfl rfl ?_
  refine wb_bipush (v := (16 : Int32)) G d_M_init_104 ib_16 ?_
  refine wb_newa G E bi_43 ⟨by decide, by decide, by decide⟩ d_M_init_106 h (fun s106 h => ?_)
  refine wb_putr G E fr_M_46 d_M_init_108 h (fun s108 h => ?_)
  refine wb_aload_n 0 G d_M_init_111 rfl rfl ?_
  refine wb_bipush (v := (16 : Int32)) G d_M_init_112 ib_16 ?_
  refine wb_newa G E bi_44 ⟨by decide, by decide, by decide⟩ d_M_init_114 h (fun s114 h => ?_)
  refine wb_putr G E fr_M_49 d_M_init_116 h (fun s116 h => ?_)
  refine wb_aload_n 0 G d_M_init_119 rfl rfl ?_
  refine wb_sipush (v := (512 : Int32)) G d_M_init_120 is_512 ?_
  refine wb_newa G E bi_45 ⟨by decide, by decide, by decide⟩ d_M_init_123 h (fun s123 h => ?_)
  refine wb_putr G E fr_M_53 d_M_init_125 h (fun s125 h => ?_)
  refine wb_aload_n 0 G d_M_init_128 rfl rfl ?_
  refine wb_sipush (v := (768 : Int32)) G d_M_init_129 is_768 ?_
  refine wb_newa G E bi_46 ⟨by decide, by decide, by decide⟩ d_M_init_132 h (fun s132 h => ?_)
  refine wb_putr G E fr_M_56 d_M_init_134 h (fun s134 h => ?_)
  refine wb_aload_n 0 G d_M_init_137 rfl rfl ?_
  refine wb_sipush (v := (768 : Int32)) G d_M_init_138 is_768 ?_
  refine wb_newa G E bi_47 ⟨by decide, by decide, by decide⟩ d_M_init_141 h (fun s141 h => ?_)
  refine wb_putr G E fr_M_59 d_M_init_143 h (fun s143 h => ?_)
  refine wb_aload_n 0 G d_M_init_146 rfl rfl ?_
  refine wb_sipush (v := (768 : Int32)) G d_M_init_147 is_768 ?_
  refine wb_newa G E bi_48 ⟨by decide, by decide, by decide⟩ d_M_init_150 h (fun s150 h => ?_)
  refine wb_putr G E fr_M_62 d_M_init_152 h (fun s152 h => ?_)
  refine wb_aload_n 0 G d_M_init_155 rfl rfl ?_
  refine wb_sipush (v := (6144 : Int32)) G d_M_init_156 is_6144 ?_
  refine wb_newa G E bi_49 ⟨by decide, by decide, by decide⟩ d_M_init_159 h (fun s159 h => ?_)
  refine wb_putr G E fr_M_65 d_M_init_161 h (fun s161 h => ?_)
  refine wb_aload_n 0 G d_M_init_164 rfl rfl ?_
  refine wb_sipush (v := (192 : Int32)) G d_M_init_165 is_192 ?_
  refine wb_newa G E bi_50 ⟨by decide, by decide, by decide⟩ d_M_init_168 h (fun s168 h => ?_)
  refine wb_putr G E fr_M_68 d_M_init_170 h (fun s170 h => ?_)
  refine wb_aload_n 0 G d_M_init_173 rfl rfl ?_
  refine wb_bipush (v := (12 : Int32)) G d_M_init_174 ib_12 ?_
  refine wb_newa G E bi_51 ⟨by decide, by decide, by decide⟩ d_M_init_176 h (fun s176 h => ?_)
  refine wb_putr G E fr_M_71 d_M_init_178 h (fun s178 h => ?_)
  refine wb_aload_n 0 G d_M_init_181 rfl rfl ?_
  refine wb_bipush (v := (12 : Int32)) G d_M_init_182 ib_12 ?_
  refine wb_newa G E bi_52 ⟨by decide, by decide, by decide⟩ d_M_init_184 h (fun s184 h => ?_)
  refine wb_putr G E fr_M_74 d_M_init_186 h (fun s186 h => ?_)
  refine wb_aload_n 0 G d_M_init_189 rfl rfl ?_
  refine wb_bipush (v := (24 : Int32)) G d_M_init_190 ib_24 ?_
  refine wb_newa G E bi_53 ⟨by decide, by decide, by decide⟩ d_M_init_192 h (fun s192 h => ?_)
  refine wb_putr G E fr_M_77 d_M_init_194 h (fun s194 h => ?_)
  refine wb_aload_n 0 G d_M_init_197 rfl rfl ?_
  refine wb_bipush (v := (24 : Int32)) G d_M_init_198 ib_24 ?_
  refine wb_newa G E bi_54 ⟨by decide, by decide, by decide⟩ d_M_init_200 h (fun s200 h => ?_)
  refine wb_putr G E fr_M_80 d_M_init_202 h (fun s202 h => ?_)
  refine wb_aload_n 0 G d_M_init_205 rfl rfl ?_
  refine wb_sipush (v := (384 : Int32)) G d_M_init_206 is_384 ?_
  refine wb_newa G E bi_55 ⟨by decide, by decide, by decide⟩ d_M_init_209 h (fun s209 h => ?_)
  refine wb_putr G E fr_M_83 d_M_init_211 h (fun s211 h => ?_)
  refine wb_aload_n 0 G d_M_init_214 rfl rfl ?_
  refine wb_bipush (v := (48 : Int32)) G d_M_init_215 ib_48 ?_
  refine wb_newa G E bi_56 ⟨by decide, by decide, by decide⟩ d_M_init_217 h (fun s217 h => ?_)
  refine wb_putr G E fr_M_86 d_M_init_219 h (fun s219 h => ?_)
  refine wb_aload_n 0 G d_M_init_222 rfl rfl ?_
  refine wb_bipush (v := (32 : Int32)) G d_M_init_223 ib_32 ?_
  refine wb_newa G E bi_57 ⟨by decide, by decide, by decide⟩ d_M_init_225 h (fun s225 h => ?_)
  refine wb_putr G E fr_M_89 d_M_init_227 h (fun s227 h => ?_)
  refine wb_aload_n 0 G d_M_init_230 rfl rfl ?_
  refine wb_iconst (v := (4 : Int32)) G d_M_init_231 ic_4 ?_
  refine wb_newa G E bi_58 ⟨by decide, by decide, by decide⟩ d_M_init_232 h (fun s232 h => ?_)
  refine wb_putr G E fr_M_92 d_M_init_234 h (fun s234 h => ?_)
  refine wb_aload_n 0 G d_M_init_237 rfl rfl ?_
  refine wb_bipush (v := (8 : Int32)) G d_M_init_238 ib_8 ?_
  refine wb_newa G E bi_59 ⟨by decide, by decide, by decide⟩ d_M_init_240 h (fun s240 h => ?_)
  refine wb_putr G E fr_M_95 d_M_init_242 h (fun s242 h => ?_)
  refine wb_aload_n 0 G d_M_init_245 rfl rfl ?_
  refine wb_sipush (v := (128 : Int32)) G d_M_init_246 is_128 ?_
  refine wb_newa G E bi_60 ⟨by decide, by decide, by decide⟩ d_M_init_249 h (fun s249 h => ?_)
  refine wb_putr G E fr_M_98 d_M_init_251 h (fun s251 h => ?_)
  refine wb_aload_n 0 G d_M_init_254 rfl rfl ?_
  refine wb_bipush (v := (8 : Int32)) G d_M_init_255 ib_8 ?_
  refine wb_newa G E bi_61 ⟨by decide, by decide, by decide⟩ d_M_init_257 h (fun s257 h => ?_)
  refine wb_putr G E fr_M_101 d_M_init_259 h (fun s259 h => ?_)
  refine wb_iconst (v := (0 : Int32)) G d_M_init_262 ic_0 ?_
  refine wb_istore_n (L' := [(1, _), (0, _)]) G d_M_init_263 rfl (by decide) rfl ?_
  refine wb_sub [1, 0] rfl ?_
  refine lp_M_init_264_ok _ _ hk _ G E (fun s264 h => ?_) FU _ _ h
  exact wb_vret G E d_M_init_283 hk h

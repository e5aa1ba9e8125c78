def lp_R_goBy_23 (i0 : Nat) (i1 : Nat) (x2 : Int32) (x3 : Int32) (x4 : Int32) (x5 : Int32) (k : Mem → RR) : Nat → Int32 → Mem → RR
  | 0, _, _ => none
  | n + 1, x6, s =>
    mm_gf s 1 i1 3 fun v26 =>
    if v26 ≤ x6 then (
      k s
    ) else (
      mm_ld s 4 i1 24 x6 fun v40 =>
      if (x4 + v40) < x2 then (
        lp_R_goBy_23 i0 i1 x2 x3 x4 x5 k n (x6 + (1 : Int32)) s
      ) else (
        if x3 < (x4 + v40) then (
          lp_R_goBy_23 i0 i1 x2 x3 x4 x5 k n (x6 + (1 : Int32)) s
        ) else (
          mm_ld s 2 i1 24 x6 fun v63 =>
          mm_ld s 3 i1 24 x6 fun v73 =>
          mm_cV (f_R_seeStop i0 (v63 - ((8 : Int32))) v73 (x4 + v40) s) fun s76 =>
          lp_R_goBy_23 i0 i1 x2 x3 x4 x5 k n (x6 + (1 : Int32)) s76
        )
      )
    )
set_option maxRecDepth 100000 in
set_option maxHeartbeats 4000000 in
theorem lp_R_goBy_23_ok {K : KK} {Γ : Cx} {o : Oc} {q : Mem} (i0 : Nat) (i1 : Nat) (x2 : Int32) (x3 : Int32) (x4 : Int32) (x5 : Int32) (h0 : i0 < 2) (h1 : i1 < 8) (k : Mem → RR) (G : Good K Γ b_R_goBy "VillageMail$Ride" 8 1 23) (E : Ends K Γ none o q)
    (Kx : ∀  (s : Mem), k s = some (o, q) → WW K Γ 0 s 85 [(0, .ref (aa K 22 i0)), (1, .ref (aa K 1 i1)), (2, .int x2), (3, .int x3), (4, .int x4), (5, .int x5)] []) :
    ∀ (n : Nat) (x6 : Int32) (s : Mem), lp_R_goBy_23 i0 i1 x2 x3 x4 x5 k n x6 s = some (o, q) → WW K Γ 0 s 23 [(0, .ref (aa K 22 i0)), (1, .ref (aa K 1 i1)), (2, .int x2), (3, .int x3), (4, .int x4), (5, .int x5), (6, .int x6)] [] := by
  intro n
  induction n with
  | zero => intro _ _ h; exact nomatch h
  | succ n ih =>
    intro x6 s h
    unfold lp_R_goBy_23 at h
    refine ww_iload 6 G d_R_goBy_23 rfl ?_
    refine ww_aload_n 1 G d_R_goBy_25 rfl rfl ?_
    refine ww_getf G fs_R_42 h1 d_R_goBy_26 h (fun v26 h => ?_)
    refine ww_icmpge (tgt := 85) G d_R_goBy_29 (by decide) h (fun h => ?_) (fun h => ?_)
    · skip
      refine ww_sub [0, 1, 2, 3, 4, 5] rfl ?_
      exact Kx  _ h
    · skip
      refine ww_iload 4 G d_R_goBy_32 rfl ?_
      refine ww_aload_n 1 G d_R_goBy_34 rfl rfl ?_
      refine ww_getr G fs_R_48 h1 d_R_goBy_35 ?_
      refine ww_iload 6 G d_R_goBy_38 rfl ?_
      refine ww_iaload G ar_4 h1 d_R_goBy_40 h (fun v40 h => ?_)
      refine ww_iadd G d_R_goBy_41 ?_
      refine ww_istore (L' := [(7, _), (0, _), (1, _), (2, _), (3, _), (4, _), (5, _), (6, _)]) G d_R_goBy_42 (by decide) rfl ?_
      refine ww_iload 0 G d_R_goBy_44 rfl ?_
      refine ww_iload_n 3 G d_R_goBy_46 rfl rfl ?_
      refine ww_icmplt (tgt := 79) G d_R_goBy_47 (by decide) h (fun h => ?_) (fun h => ?_)
      · skip
        refine ww_iinc 7 (L' := [(6, _), (7, _), (0, _), (1, _), (2, _), (3, _), (4, _), (5, _)]) G d_R_goBy_79 rfl ic_1 (by decide) rfl ?_
        refine ww_goto (tgt := 23) G d_R_goBy_82 (by decide) ?_
        refine ww_sub [2, 3, 4, 5, 6, 7, 0] rfl ?_
        exact ih _ _ h
      · skip
        refine ww_iload 0 G d_R_goBy_50 rfl ?_
        refine ww_iload_n 4 G d_R_goBy_52 rfl rfl ?_
        refine ww_icmpgt (tgt := 79) G d_R_goBy_53 (by decide) h (fun h => ?_) (fun h => ?_)
        · skip
          refine ww_iinc 7 (L' := [(6, _), (7, _), (0, _), (1, _), (2, _), (3, _), (4, _), (5, _)]) G d_R_goBy_79 rfl ic_1 (by decide) rfl ?_
          refine ww_goto (tgt := 23) G d_R_goBy_82 (by decide) ?_
          refine ww_sub [2, 3, 4, 5, 6, 7, 0] rfl ?_
          exact ih _ _ h
        · skip
          refine ww_aload_n 1 G d_R_goBy_56 rfl rfl ?_
          refine ww_aload_n 2 G d_R_goBy_57 rfl rfl ?_
          refine ww_getr G fs_R_51 h1 d_R_goBy_58 ?_
          refine ww_iload 7 G d_R_goBy_61 rfl ?_
          refine ww_iaload G ar_2 h1 d_R_goBy_63 h (fun v63 h => ?_)
          refine ww_bipush (v := (8 : Int32)) G d_R_goBy_64 ib_8 ?_
          refine ww_isub G d_R_goBy_66 ?_
          refine ww_aload_n 2 G d_R_goBy_67 rfl rfl ?_
          refine ww_getr G fs_R_54 h1 d_R_goBy_68 ?_
          refine ww_iload 7 G d_R_goBy_71 rfl ?_
          refine ww_iaload G ar_3 h1 d_R_goBy_73 h (fun v73 h => ?_)
          refine ww_iload 0 G d_R_goBy_74 rfl ?_
          refine ww_cvV (As := [_, _, _]) G E cs_R_57 h0 (fun o q h => c_R_seeStop i0 (v63 - ((8 : Int32))) v73 (x4 + v40) h0 _ _ _ h) rfl rfl (Nat.le_of_ble_eq_true rfl) d_R_goBy_76 (by decide) h (fun s76 h => ?_)
          refine ww_iinc 7 (L' := [(6, _), (7, _), (0, _), (1, _), (2, _), (3, _), (4, _), (5, _)]) G d_R_goBy_79 rfl ic_1 (by decide) rfl ?_
          refine ww_goto (tgt := 23) G d_R_goBy_82 (by decide) ?_
          refine ww_sub [2, 3, 4, 5, 6, 7, 0] rfl ?_
          exact ih _ _ h
def lp_R_goBy_14 (i0 : Nat) (i1 : Nat) (x2 : Int32) (x3 : Int32) (k : Mem → RR) : Nat → Int32 → Int32 → Mem → RR
  | 0, _, _, _ => none
  | n + 1, x4, x5, s =>
    if ((3 : Int32)) ≤ x5 then (
      k s
    ) else (
      mm_lp (fun kk => lp_R_goBy_23 i0 i1 x2 x3 x4 x5 kk FU ((0 : Int32)) s) fun s23 =>
      lp_R_goBy_14 i0 i1 x2 x3 k n (x4 + (10080 : Int32)) (x5 + (1 : Int32)) s23
    )
set_option maxRecDepth 100000 in
set_option maxHeartbeats 4000000 in
theorem lp_R_goBy_14_ok {K : KK} {Γ : Cx} {o : Oc} {q : Mem} (i0 : Nat) (i1 : Nat) (x2 : Int32) (x3 : Int32) (h0 : i0 < 2) (h1 : i1 < 8) (k : Mem → RR) (G : Good K Γ b_R_goBy "VillageMail$Ride" 8 1 23) (E : Ends K Γ none o q)
    (Kx : ∀  (s : Mem), k s = some (o, q) → WW K Γ 0 s 97 [] []) :
    ∀ (n : Nat) (x4 : Int32) (x5 : Int32) (s : Mem), lp_R_goBy_14 i0 i1 x2 x3 k n x4 x5 s = some (o, q) → WW K Γ 0 s 14 [(0, .ref (aa K 22 i0)), (1, .ref (aa K 1 i1)), (2, .int x2), (3, .int x3), (4, .int x4), (5, .int x5)] [] := by
  intro n
  induction n with
  | zero => intro _ _ _ h; exact nomatch h
  | succ n ih =>
    intro x4 x5 s h
    unfold lp_R_goBy_14 at h
    refine ww_iload 5 G d_R_goBy_14 rfl ?_
    refine ww_iconst (v := (3 : Int32)) G d_R_goBy_16 ic_3 ?_
    refine ww_icmpge (tgt := 97) G d_R_goBy_17 (by decide) h (fun h => ?_) (fun h => ?_)
    · skip
      refine ww_sub [] rfl ?_
      exact Kx  _ h
    · skip
      refine ww_iconst (v := (0 : Int32)) G d_R_goBy_20 ic_0 ?_
      refine ww_istore (L' := [(6, _), (0, _), (1, _), (2, _), (3, _), (4, _), (5, _)]) G d_R_goBy_21 (by decide) rfl ?_
      refine ww_sub [1, 2, 3, 4, 5, 6, 0] rfl ?_
      refine lp_R_goBy_23_ok i0 i1 x2 x3 x4 x5 h0 h1 _ G E (fun s23 h => ?_) FU _ _ h
      refine ww_iincW 4 (L' := [(4, _), (0, _), (1, _), (2, _), (3, _), (5, _)]) G d_R_goBy_85 rfl ic_10080 (by decide) rfl ?_
      refine ww_iinc 5 (L' := [(5, _), (4, _), (0, _), (1, _), (2, _), (3, _)]) G d_R_goBy_91 rfl ic_1 (by decide) rfl ?_
      refine ww_goto (tgt := 14) G d_R_goBy_94 (by decide) ?_
      refine ww_sub [2, 3, 4, 5, 1, 0] rfl ?_
      exact ih _ _ _ h
def f_R_goBy (i0 : Nat) (i1 : Nat) (x2 : Int32) (x3 : Int32) (s : Mem) : RR :=
  mm_cI (f_J_floorMod x2 ((10080 : Int32)) s) fun v5 s5 =>
  mm_lp (fun kk => lp_R_goBy_14 i0 i1 x2 x3 kk FU (x2 - v5) ((0 : Int32)) s5) fun s14 =>
  mm_rv s14
set_option maxRecDepth 100000 in
set_option maxHeartbeats 4000000 in
theorem c_R_goBy {l : Launch} {K : KK} (i0 : Nat) (i1 : Nat) (x2 : Int32) (x3 : Int32) (h0 : i0 < 2) (h1 : i1 < 8) (s : Mem) (o : Oc) (q : Mem) (h : f_R_goBy i0 i1 x2 x3 s = some (o, q)) : Ct l K y_R_goBy b_R_goBy 8 none 1 23 [.ref (aa K 22 i0), .ref (aa K 1 i1), .int x2, .int x3] s o q := by
  refine Ct_of (own := "VillageMail$Ride") (L := [(0, _), (1, _), (2, _), (3, _)]) (by decide +kernel) rfl (Nat.le_of_ble_eq_true rfl) rfl (fun Γ G E => ?_)
  unfold f_R_goBy at h
  refine ww_iload_n 2 G d_R_goBy_0 rfl rfl ?_
  refine ww_iload_n 2 G d_R_goBy_1 rfl rfl ?_
  refine ww_sipush (v := (10080 : Int32)) G d_R_goBy_2 is_10080 ?_
  refine ww_csI (As := [_, _]) G E cs_R_36 (fun o q h => c_J_floorMod x2 ((10080 : Int32)) _ _ _ h) rfl rfl (Nat.le_of_ble_eq_true rfl) d_R_goBy_5 (by decide) h (fun v5 s5 h => ?_)
  refine ww_isub G d_R_goBy_8 ?_
  refine ww_istore (L' := [(4, _), (0, _), (1, _), (2, _), (3, _)]) G d_R_goBy_9 (by decide) rfl ?_
  refine ww_iconst (v := (0 : Int32)) G d_R_goBy_11 ic_0 ?_
  refine ww_istore (L' := [(5, _), (4, _), (0, _), (1, _), (2, _), (3, _)]) G d_R_goBy_12 (by decide) rfl ?_
  refine ww_sub [2, 3, 4, 5, 1, 0] rfl ?_
  refine lp_R_goBy_14_ok i0 i1 x2 x3 h0 h1 _ G E (fun s14 h => ?_) FU _ _ _ h
  exact ww_vret G E d_R_goBy_97 h
def f_R_startAtKiosk (i0 : Nat) (i1 : Nat) (x2 : Int32) (x3 : Int32) (s : Mem) : RR :=
  mm_cV (f_R_clear i0 s) fun s1 =>
  mm_st s1 23 i0 8 x2 x3 fun s10 =>
  mm_st s10 24 i0 8 x2 x3 fun s17 =>
  mm_cV (f_R_goBy i0 i1 x3 (x3 + ((20160 : Int32))) s17) fun s26 =>
  mm_rv s26
set_option maxRecDepth 100000 in
set_option maxHeartbeats 4000000 in
theorem c_R_startAtKiosk {l : Launch} {K : KK} (i0 : Nat) (i1 : Nat) (x2 : Int32) (x3 : Int32) (h0 : i0 < 2) (h1 : i1 < 8) (s : Mem) (o : Oc) (q : Mem) (h : f_R_startAtKiosk i0 i1 x2 x3 s = some (o, q)) : Ct l K y_R_startAtKiosk b_R_startAtKiosk 4 none 2 50 [.ref (aa K 22 i0), .ref (aa K 1 i1), .int x2, .int x3] s o q := by
  refine Ct_of (own := "VillageMail$Ride") (L := [(0, _), (1, _), (2, _), (3, _)]) (by decide +kernel) rfl (Nat.le_of_ble_eq_true rfl) rfl (fun Γ G E => ?_)
  unfold f_R_startAtKiosk at h
  refine ww_aload_n 0 G d_R_startAtKiosk_0 rfl rfl ?_
  refine ww_cvV (As := []) G E cs_R_22 h0 (fun o q h => c_R_clear i0 h0 _ _ _ h) rfl rfl (Nat.le_of_ble_eq_true rfl) d_R_startAtKiosk_1 (by decide) h (fun s1 h => ?_)
  refine ww_aload_n 0 G d_R_startAtKiosk_4 rfl rfl ?_
  refine ww_getr G fs_R_9 h0 d_R_startAtKiosk_5 ?_
  refine ww_iload_n 2 G d_R_startAtKiosk_8 rfl rfl ?_
  refine ww_iload_n 3 G d_R_startAtKiosk_9 rfl rfl ?_
  refine ww_iastore G ar_23 h0 d_R_startAtKiosk_10 h (fun s10 h => ?_)
  refine ww_aload_n 0 G d_R_startAtKiosk_11 rfl rfl ?_
  refine ww_getr G fs_R_15 h0 d_R_startAtKiosk_12 ?_
  refine ww_iload_n 2 G d_R_startAtKiosk_15 rfl rfl ?_
  refine ww_iload_n 3 G d_R_startAtKiosk_16 rfl rfl ?_
  refine ww_iastore G ar_24 h0 d_R_startAtKiosk_17 h (fun s17 h => ?_)
  refine ww_aload_n 0 G d_R_startAtKiosk_18 rfl rfl ?_
  refine ww_aload_n 1 G d_R_startAtKiosk_19 rfl rfl ?_
  refine ww_iload_n 3 G d_R_startAtKiosk_20 rfl rfl ?_
  refine ww_iload_n 3 G d_R_startAtKiosk_21 rfl rfl ?_
  refine ww_sipush (v := (20160 : Int32)) G d_R_startAtKiosk_22 is_20160 ?_
  refine ww_iadd G d_R_startAtKiosk_25 ?_
  refine ww_cvV (As := [_, _, _]) G E cs_R_25 h0 (fun o q h => c_R_goBy i0 i1 x3 (x3 + ((20160 : Int32))) h0 h1 _ _ _ h) rfl rfl (Nat.le_of_ble_eq_true rfl) d_R_startAtKiosk_26 (by decide) h (fun s26 h => ?_)
  exact ww_vret G E d_R_startAtKiosk_29 h
def f_R_startOnBus (i0 : Nat) (i1 : Nat) (x2 : Int32) (x3 : Int32) (s : Mem) : RR :=
  mm_cV (f_R_clear i0 s) fun s1 =>
  mm_sz s1 25 i0 4 (x2 - ((8 : Int32))) ((1 : Int32)) fun s13 =>
  mm_cV (f_R_goBy i0 i1 (x3 + ((1 : Int32))) (x3 + ((20160 : Int32))) s13) fun s24 =>
  mm_rv s24
set_option maxRecDepth 100000 in
set_option maxHeartbeats 4000000 in
theorem c_R_startOnBus {l : Launch} {K : KK} (i0 : Nat) (i1 : Nat) (x2 : Int32) (x3 : Int32) (h0 : i0 < 2) (h1 : i1 < 8) (s : Mem) (o : Oc) (q : Mem) (h : f_R_startOnBus i0 i1 x2 x3 s = some (o, q)) : Ct l K y_R_startOnBus b_R_startOnBus 4 none 2 50 [.ref (aa K 22 i0), .ref (aa K 1 i1), .int x2, .int x3] s o q := by
  refine Ct_of (own := "VillageMail$Ride") (L := [(0, _), (1, _), (2, _), (3, _)]) (by decide +kernel) rfl (Nat.le_of_ble_eq_true rfl) rfl (fun Γ G E => ?_)
  unfold f_R_startOnBus at h
  refine ww_aload_n 0 G d_R_startOnBus_0 rfl rfl ?_
  refine ww_cvV (As := []) G E cs_R_22 h0 (fun o q h => c_R_clear i0 h0 _ _ _ h) rfl rfl (Nat.le_of_ble_eq_true rfl) d_R_startOnBus_1 (by decide) h (fun s1 h => ?_)
  refine ww_aload_n 0 G d_R_startOnBus_4 rfl rfl ?_
  refine ww_getr G fs_R_18 h0 d_R_startOnBus_5 ?_
  refine ww_iload_n 2 G d_R_startOnBus_8 rfl rfl ?_
  refine ww_bipush (v := (8 : Int32)) G d_R_startOnBus_9 ib_8 ?_
  refine ww_isub G d_R_startOnBus_11 ?_
  refine ww_iconst (v := (1 : Int32)) G d_R_startOnBus_12 ic_1 ?_
  refine ww_bastore G ar_25 h0 d_R_startOnBus_13 h (fun s13 h => ?_)
  refine ww_aload_n 0 G d_R_startOnBus_14 rfl rfl ?_
  refine ww_aload_n 1 G d_R_startOnBus_15 rfl rfl ?_
  refine ww_iload_n 3 G d_R_startOnBus_16 rfl rfl ?_
  refine ww_iconst (v := (1 : Int32)) G d_R_startOnBus_17 ic_1 ?_
  refine ww_iadd G d_R_startOnBus_18 ?_
  refine ww_iload_n 3 G d_R_startOnBus_19 rfl rfl ?_
  refine ww_sipush (v := (20160 : Int32)) G d_R_startOnBus_20 is_20160 ?_
  refine ww_iadd G d_R_startOnBus_23 ?_
  refine ww_cvV (As := [_, _, _]) G E cs_R_25 h0 (fun o q h => c_R_goBy i0 i1 (x3 + ((1 : Int32))) (x3 + ((20160 : Int32))) h0 h1 _ _ _ h) rfl rfl (Nat.le_of_ble_eq_true rfl) d_R_startOnBus_24 (by decide) h (fun s24 h => ?_)
  exact ww_vret G E d_R_startOnBus_27 h
def f_X_isBus (x0 : Int32) (s : Mem) : RR :=
  if x0 < ((8 : Int32)) then (
    mm_rz ((0 : Int32)) s
  ) else (
    if ((12 : Int32)) ≤ x0 then (
      mm_rz ((0 : Int32)) s
    ) else (
      mm_rz ((1 : Int32)) s
    )
  )
set_option maxRecDepth 100000 in
set_option maxHeartbeats 4000000 in
theorem c_X_isBus {l : Launch} {K : KK} (x0 : Int32)  (s : Mem) (o : Oc) (q : Mem) (h : f_X_isBus x0 s = some (o, q)) : Ct l K y_X_isBus b_X_isBus 1 (some .boolean) 0 0 [.int x0] s o q := by
  refine Ct_of (own := "VillageMail") (L := [(0, _)]) (by decide +kernel) rfl (Nat.le_of_ble_eq_true rfl) rfl (fun Γ G E => ?_)
  unfold f_X_isBus at h
  refine ww_iload_n 0 G d_X_isBus_0 rfl rfl ?_
  refine ww_bipush (v := (8 : Int32)) G d_X_isBus_1 ib_8 ?_
  refine ww_icmplt (tgt := 16) G d_X_isBus_3 (by decide) h (fun h => ?_) (fun h => ?_)
  · skip
    refine ww_iconst (v := (0 : Int32)) G d_X_isBus_16 ic_0 ?_
    exact ww_zret G E d_X_isBus_17 h
  · skip
    refine ww_iload_n 0 G d_X_isBus_6 rfl rfl ?_
    refine ww_bipush (v := (12 : Int32)) G d_X_isBus_7 ib_12 ?_
    refine ww_icmpge (tgt := 16) G d_X_isBus_9 (by decide) h (fun h => ?_) (fun h => ?_)
    · skip
      refine ww_iconst (v := (0 : Int32)) G d_X_isBus_16 ic_0 ?_
      exact ww_zret G E d_X_isBus_17 h
    · skip
      refine ww_iconst (v := (1 : Int32)) G d_X_isBus_12 ic_1 ?_
      refine ww_goto (tgt := 17) G d_X_isBus_13 (by decide) ?_
      exact ww_zret G E d_X_isBus_17 h
def f_X_demand (x0 : Int32) (s : Mem) : RR :=
  if ¬ x0 = 0 then (
    mm_rv s
  ) else (
    mm_th 1 s
  )
set_option maxRecDepth 100000 in
set_option maxHeartbeats 4000000 in
theorem c_X_demand {l : Launch} {K : KK} (x0 : Int32)  (s : Mem) (o : Oc) (q : Mem) (h : f_X_demand x0 s = some (o, q)) : Ct l K y_X_demand b_X_demand 1 none 6 89 [.int x0] s o q := by
  refine Ct_of (own := "VillageMail") (L := [(0, _)]) (by decide +kernel) rfl (Nat.le_of_ble_eq_true rfl) rfl (fun Γ G E => ?_)
  unfold f_X_demand at h
  refine ww_iload_n 0 G d_X_demand_0 rfl rfl ?_
  refine ww_ifne (tgt := 12) G d_X_demand_1 (by decide) h (fun h => ?_) (fun h => ?_)
  · skip
    exact ww_vret G E d_X_demand_12 h
  · skip
    exact ww_thr G E xs_X_347 d_X_demand_4 d_X_demand_7 d_X_demand_8 d_X_demand_11 (by decide) (Nat.le_of_ble_eq_true rfl) h
def f_X_isWithin (x0 : Int32) (x1 : Int32) (s : Mem) : RR :=
  if x0 < 0 then (
    mm_rz ((0 : Int32)) s
  ) else (
    if x1 ≤ x0 then (
      mm_rz ((0 : Int32)) s
    ) else (
      mm_rz ((1 : Int32)) s
    )
  )
set_option maxRecDepth 100000 in
set_option maxHeartbeats 4000000 in
theorem c_X_isWithin {l : Launch} {K : KK} (x0 : Int32) (x1 : Int32)  (s : Mem) (o : Oc) (q : Mem) (h : f_X_isWithin x0 x1 s = some (o, q)) : Ct l K y_X_isWithin b_X_isWithin 2 (some .boolean) 0 0 [.int x0, .int x1] s o q := by
  refine Ct_of (own := "VillageMail") (L := [(0, _), (1, _)]) (by decide +kernel) rfl (Nat.le_of_ble_eq_true rfl) rfl (fun Γ G E => ?_)
  unfold f_X_isWithin at h
  refine ww_iload_n 0 G d_X_isWithin_0 rfl rfl ?_
  refine ww_iflt (tgt := 13) G d_X_isWithin_1 (by decide) h (fun h => ?_) (fun h => ?_)
  · skip
    refine ww_iconst (v := (0 : Int32)) G d_X_isWithin_13 ic_0 ?_
    exact ww_zret G E d_X_isWithin_14 h
  · skip
    refine ww_iload_n 0 G d_X_isWithin_4 rfl rfl ?_
    refine ww_iload_n 1 G d_X_isWithin_5 rfl rfl ?_
    refine ww_icmpge (tgt := 13) G d_X_isWithin_6 (by decide) h (fun h => ?_) (fun h => ?_)
    · skip
      refine ww_iconst (v := (0 : Int32)) G d_X_isWithin_13 ic_0 ?_
      exact ww_zret G E d_X_isWithin_14 h
    · skip
      refine ww_iconst (v := (1 : Int32)) G d_X_isWithin_9 ic_1 ?_
      refine ww_goto (tgt := 14) G d_X_isWithin_10 (by decide) ?_
      exact ww_zret G E d_X_isWithin_14 h
def f_X_isKiosk (x0 : Int32) (s : Mem) : RR :=
  mm_cI (f_X_isWithin x0 ((8 : Int32)) s) fun v3 s3 =>
  mm_rz v3 s3
set_option maxRecDepth 100000 in
set_option maxHeartbeats 4000000 in
theorem c_X_isKiosk {l : Launch} {K : KK} (x0 : Int32)  (s : Mem) (o : Oc) (q : Mem) (h : f_X_isKiosk x0 s = some (o, q)) : Ct l K y_X_isKiosk b_X_isKiosk 1 (some .boolean) 1 21 [.int x0] s o q := by
  refine Ct_of (own := "VillageMail") (L := [(0, _)]) (by decide +kernel) rfl (Nat.le_of_ble_eq_true rfl) rfl (fun Γ G E => ?_)
  unfold f_X_isKiosk at h
  refine ww_iload_n 0 G d_X_isKiosk_0 rfl rfl ?_
  refine ww_bipush (v := (8 : Int32)) G d_X_isKiosk_1 ib_8 ?_
  refine ww_csI (As := [_, _]) G E cs_X_74 (fun o q h => c_X_isWithin x0 ((8 : Int32)) _ _ _ h) rfl rfl (Nat.le_of_ble_eq_true rfl) d_X_isKiosk_3 (by decide) h (fun v3 s3 h => ?_)
  exact ww_zret G E d_X_isKiosk_6 h
def f_X_stop (x1 : Int32) (x2 : Int32) (x3 : Int32) (s : Mem) : RR :=
  mm_cI (f_X_isBus x1 s) fun v1 s1 =>
  mm_jn (fun (y29 : Int32) s29 =>
    mm_tV (f_X_demand y29 s29) fun s29 =>
    mm_cI (f_T_find 7 x1 x3 s29) fun v38 s38 =>
    if ¬ v38 = ((-1 : Int32)) then (
      mm_th 2 s38
    ) else (
      mm_gf s38 1 7 3 fun v49 =>
      if ¬ v49 = ((24 : Int32)) then (
        mm_cV (f_T_insert 7 x1 x2 x3 s38) fun s72 =>
        mm_gf s72 1 7 3 fun v79 =>
        mm_ri v79 s72
      ) else (
        mm_th 2 s38
      )
    )
  ) (fun r29 =>
  if v1 = 0 then (
    r29 ((0 : Int32)) s1
  ) else (
    mm_cI (f_X_isKiosk x2 s1) fun v8 s8 =>
    if v8 = 0 then (
      r29 ((0 : Int32)) s8
    ) else (
      mm_cI (f_X_isWithin x3 ((10080 : Int32)) s8) fun v18 s18 =>
      if v18 = 0 then (
        r29 ((0 : Int32)) s18
      ) else (
        r29 ((1 : Int32)) s18
      )
    )
  ))
set_option maxRecDepth 100000 in
set_option maxHeartbeats 4000000 in
theorem c_X_stop {l : Launch} {K : KK} (x1 : Int32) (x2 : Int32) (x3 : Int32)  (s : Mem) (o : Oc) (q : Mem) (h : f_X_stop x1 x2 x3 s = some (o, q)) : Ct l K y_X_stop b_X_stop 4 (some .int) 7 109 [.ref (aa K 0 0), .int x1, .int x2, .int x3] s o q := by
  refine Ct_of (own := "VillageMail") (L := [(0, _), (1, _), (2, _), (3, _)]) (by decide +kernel) rfl (Nat.le_of_ble_eq_true rfl) rfl (fun Γ G E => ?_)
  unfold f_X_stop at h
  refine ww_iload_n 1 G d_X_stop_0 rfl rfl ?_
  refine ww_csI (As := [_]) G E cs_X_67 (fun o q h => c_X_isBus x1 _ _ _ h) rfl rfl (Nat.le_of_ble_eq_true rfl) d_X_stop_1 (by decide) h (fun v1 s1 h => ?_)
  refine ww_jn h (fun (y29 : Int32) (s29 : Mem) => WW K Γ 0 s29 29 [(0, .ref (aa K 0 0)), (1, .int x1), (2, .int x2), (3, .int x3)] [.int y29]) (fun y29 s29 h => ?_) (fun r29 J29 h => ?_)
  · skip
    refine ww_tsV (As := [_]) G E cs_X_78 (fun o q h => c_X_demand y29 _ _ _ h) rfl rfl (Nat.le_of_ble_eq_true rfl) d_X_stop_29 (by decide) h (fun s29 h => ?_)
    refine ww_aload_n 0 G d_X_stop_32 rfl rfl ?_
    refine ww_getr G fs_X_12 (by decide) d_X_stop_33 ?_
    refine ww_iload_n 1 G d_X_stop_36 rfl rfl ?_
    refine ww_iload_n 3 G d_X_stop_37 rfl rfl ?_
    refine ww_cvI (As := [_, _]) G E cs_X_82 (by decide) (fun o q h => c_T_find 7 x1 x3 (by decide) _ _ _ h) rfl rfl (Nat.le_of_ble_eq_true rfl) d_X_stop_38 (by decide) h (fun v38 s38 h => ?_)
    refine ww_iconst (v := (-1 : Int32)) G d_X_stop_41 ic_m1 ?_
    refine ww_icmpne (tgt := 57) G d_X_stop_42 (by decide) h (fun h => ?_) (fun h => ?_)
    · skip
      exact ww_thr G E xs_X_90 d_X_stop_57 d_X_stop_60 d_X_stop_61 d_X_stop_64 (by decide) (Nat.le_of_ble_eq_true rfl) h
    · skip
      refine ww_aload_n 0 G d_X_stop_45 rfl rfl ?_
      refine ww_getr G fs_X_12 (by decide) d_X_stop_46 ?_
      refine ww_getf G fs_X_86 (by decide) d_X_stop_49 h (fun v49 h => ?_)
      refine ww_bipush (v := (24 : Int32)) G d_X_stop_52 ib_24 ?_
      refine ww_icmpne (tgt := 65) G d_X_stop_54 (by decide) h (fun h => ?_) (fun h => ?_)
      · skip
        refine ww_aload_n 0 G d_X_stop_65 rfl rfl ?_
        refine ww_getr G fs_X_12 (by decide) d_X_stop_66 ?_
        refine ww_iload_n 1 G d_X_stop_69 rfl rfl ?_
        refine ww_iload_n 2 G d_X_stop_70 rfl rfl ?_
        refine ww_iload_n 3 G d_X_stop_71 rfl rfl ?_
        refine ww_cvV (As := [_, _, _]) G E cs_X_93 (by decide) (fun o q h => c_T_insert 7 x1 x2 x3 (by decide) _ _ _ h) rfl rfl (Nat.le_of_ble_eq_true rfl) d_X_stop_72 (by decide) h (fun s72 h => ?_)
        refine ww_aload_n 0 G d_X_stop_75 rfl rfl ?_
        refine ww_getr G fs_X_12 (by decide) d_X_stop_76 ?_
        refine ww_getf G fs_X_86 (by decide) d_X_stop_79 h (fun v79 h => ?_)
        exact ww_iret G E d_X_stop_82 h
      · skip
        exact ww_thr G E xs_X_90 d_X_stop_57 d_X_stop_60 d_X_stop_61 d_X_stop_64 (by decide) (Nat.le_of_ble_eq_true rfl) h
  refine ww_ifeq (tgt := 28) G d_X_stop_4 (by decide) h (fun h => ?_) (fun h => ?_)
  · skip
    refine ww_iconst (v := (0 : Int32)) G d_X_stop_28 ic_0 ?_
    exact J29 _ _ h
  · skip
    refine ww_iload_n 2 G d_X_stop_7 rfl rfl ?_
    refine ww_csI (As := [_]) G E cs_X_71 (fun o q h => c_X_isKiosk x2 _ _ _ h) rfl rfl (Nat.le_of_ble_eq_true rfl) d_X_stop_8 (by decide) h (fun v8 s8 h => ?_)
    refine ww_ifeq (tgt := 28) G d_X_stop_11 (by decide) h (fun h => ?_) (fun h => ?_)
    · skip
      refine ww_iconst (v := (0 : Int32)) G d_X_stop_28 ic_0 ?_
      exact J29 _ _ h
    · skip
      refine ww_iload_n 3 G d_X_stop_14 rfl rfl ?_
      refine ww_sipush (v := (10080 : Int32)) G d_X_stop_15 is_10080 ?_
      refine ww_csI (As := [_, _]) G E cs_X_74 (fun o q h => c_X_isWithin x3 ((10080 : Int32)) _ _ _ h) rfl rfl (Nat.le_of_ble_eq_true rfl) d_X_stop_18 (by decide) h (fun v18 s18 h => ?_)
      refine ww_ifeq (tgt := 28) G d_X_stop_21 (by decide) h (fun h => ?_) (fun h => ?_)
      · skip
        refine ww_iconst (v := (0 : Int32)) G d_X_stop_28 ic_0 ?_
        exact J29 _ _ h
      · skip
        refine ww_iconst (v := (1 : Int32)) G d_X_stop_24 ic_1 ?_
        refine ww_goto (tgt := 29) G d_X_stop_25 (by decide) ?_
        exact J29 _ _ h
def f_X_cancel (x1 : Int32) (x2 : Int32) (s : Mem) : RR :=
  mm_cI (f_T_find 7 x1 x2 s) fun v6 s6 =>
  if ¬ v6 = ((-1 : Int32)) then (
    mm_cV (f_T_takeOut 7 v6 s6) fun s22 =>
    mm_rz ((1 : Int32)) s22
  ) else (
    mm_rz ((0 : Int32)) s6
  )
set_option maxRecDepth 100000 in
set_option maxHeartbeats 4000000 in
theorem c_X_cancel {l : Launch} {K : KK} (x1 : Int32) (x2 : Int32)  (s : Mem) (o : Oc) (q : Mem) (h : f_X_cancel x1 x2 s = some (o, q)) : Ct l K y_X_cancel b_X_cancel 4 (some .boolean) 2 46 [.ref (aa K 0 0), .int x1, .int x2] s o q := by
  refine Ct_of (own := "VillageMail") (L := [(0, _), (1, _), (2, _)]) (by decide +kernel) rfl (Nat.le_of_ble_eq_true rfl) rfl (fun Γ G E => ?_)
  unfold f_X_cancel at h
  refine ww_aload_n 0 G d_X_cancel_0 rfl rfl ?_
  refine ww_getr G fs_X_12 (by decide) d_X_cancel_1 ?_
  refine ww_iload_n 1 G d_X_cancel_4 rfl rfl ?_
  refine ww_iload_n 2 G d_X_cancel_5 rfl rfl ?_
  refine ww_cvI (As := [_, _]) G E cs_X_82 (by decide) (fun o q h => c_T_find 7 x1 x2 (by decide) _ _ _ h) rfl rfl (Nat.le_of_ble_eq_true rfl) d_X_cancel_6 (by decide) h (fun v6 s6 h => ?_)
  refine ww_istore_n (L' := [(3, _), (0, _), (1, _), (2, _)]) G d_X_cancel_9 rfl (by decide) rfl ?_
  refine ww_iload_n 0 G d_X_cancel_10 rfl rfl ?_
  refine ww_iconst (v := (-1 : Int32)) G d_X_cancel_11 ic_m1 ?_
  refine ww_icmpne (tgt := 17) G d_X_cancel_12 (by decide) h (fun h => ?_) (fun h => ?_)
  · skip
    refine ww_aload_n 1 G d_X_cancel_17 rfl rfl ?_
    refine ww_getr G fs_X_12 (by decide) d_X_cancel_18 ?_
    refine ww_iload_n 0 G d_X_cancel_21 rfl rfl ?_
    refine ww_cvV (As := [_]) G E cs_X_97 (by decide) (fun o q h => c_T_takeOut 7 v6 (by decide) _ _ _ h) rfl rfl (Nat.le_of_ble_eq_true rfl) d_X_cancel_22 (by decide) h (fun s22 h => ?_)
    refine ww_iconst (v := (1 : Int32)) G d_X_cancel_25 ic_1 ?_
    exact ww_zret G E d_X_cancel_26 h
  · skip
    refine ww_iconst (v := (0 : Int32)) G d_X_cancel_15 ic_0 ?_
    exact ww_zret G E d_X_cancel_16 h
def f_X_publish  (s : Mem) : RR :=
  mm_gf s 0 0 3 fun v1 =>
  if ¬ v1 = ((6 : Int32)) then (
    mm_gf s 0 0 3 fun v19 =>
    mm_pf s 0 0 3 (v19 + ((1 : Int32))) fun s24 =>
    mm_gf s24 0 0 3 fun v32 =>
    mm_al 7 v32 fun j35 =>
    mm_cV (f_T_become j35 7 s24) fun s40 =>
    mm_al 12 ((0 : Int32)) fun j48 =>
    mm_gf s40 0 0 3 fun v50 =>
    mm_pf s40 7 j48 6 v50 fun s53 =>
    mm_gf s53 0 0 3 fun v57 =>
    mm_ri v57 s53
  ) else (
    mm_th 2 s
  )
set_option maxRecDepth 100000 in
set_option maxHeartbeats 4000000 in
theorem c_X_publish {l : Launch} {K : KK}   (s : Mem) (o : Oc) (q : Mem) (h : f_X_publish s = some (o, q)) : Ct l K y_X_publish b_X_publish 1 (some .int) 6 89 [.ref (aa K 0 0)] s o q := by
  refine Ct_of (own := "VillageMail") (L := [(0, _)]) (by decide +kernel) rfl (Nat.le_of_ble_eq_true rfl) rfl (fun Γ G E => ?_)
  unfold f_X_publish at h
  refine ww_aload_n 0 G d_X_publish_0 rfl rfl ?_
  refine ww_getf G fs_X_100 (by decide) d_X_publish_1 h (fun v1 h => ?_)
  refine ww_bipush (v := (6 : Int32)) G d_X_publish_4 ib_6 ?_
  refine ww_icmpne (tgt := 17) G d_X_publish_6 (by decide) h (fun h => ?_) (fun h => ?_)
  · skip
    refine ww_aload_n 0 G d_X_publish_17 rfl rfl ?_
    refine ww_dup G d_X_publish_18 rfl ?_
    refine ww_getf G fs_X_100 (by decide) d_X_publish_19 h (fun v19 h => ?_)
    refine ww_iconst (v := (1 : Int32)) G d_X_publish_22 ic_1 ?_
    refine ww_iadd G d_X_publish_23 ?_
    refine ww_putf G fs_X_100 (by decide) d_X_publish_24 h (fun s24 h => ?_)
    refine ww_aload_n 0 G d_X_publish_27 rfl rfl ?_
    refine ww_getr G fs_X_16 (by decide) d_X_publish_28 ?_
    refine ww_aload_n 0 G d_X_publish_31 rfl rfl ?_
    refine ww_getf G fs_X_100 (by decide) d_X_publish_32 h (fun v32 h => ?_)
    refine ww_aaload G ar_5 (by decide) d_X_publish_35 h (fun j35 hj35 h => ?_)
    refine ww_aload_n 0 G d_X_publish_36 rfl rfl ?_
    refine ww_getr G fs_X_12 (by decide) d_X_publish_37 ?_
    refine ww_cvV (As := [_]) G E cs_X_103 (show j35 < 8 by omega) (fun o q h => c_T_become j35 7 (show j35 < 8 by omega) (by decide) _ _ _ h) rfl rfl (Nat.le_of_ble_eq_true rfl) d_X_publish_40 (by decide) h (fun s40 h => ?_)
    refine ww_aload_n 0 G d_X_publish_43 rfl rfl ?_
    refine ww_getr G fs_X_22 (by decide) d_X_publish_44 ?_
    refine ww_iconst (v := (0 : Int32)) G d_X_publish_47 ic_0 ?_
    refine ww_aaload G ar_6 (by decide) d_X_publish_48 h (fun j48 hj48 h => ?_)
    refine ww_aload_n 0 G d_X_publish_49 rfl rfl ?_
    refine ww_getf G fs_X_100 (by decide) d_X_publish_50 h (fun v50 h => ?_)
    refine ww_putf G fs_X_107 hj48 d_X_publish_53 h (fun s53 h => ?_)
    refine ww_aload_n 0 G d_X_publish_56 rfl rfl ?_
    refine ww_getf G fs_X_100 (by decide) d_X_publish_57 h (fun v57 h => ?_)
    exact ww_iret G E d_X_publish_60 h
  · skip
    exact ww_thr G E xs_X_90 d_X_publish_9 d_X_publish_12 d_X_publish_13 d_X_publish_16 (by decide) (Nat.le_of_ble_eq_true rfl) h
def f_X_arrival (x1 : Int32) (x2 : Int32) (x3 : Int32) (x4 : Int32) (s : Mem) : RR :=
  mm_al 7 x1 fun j9 =>
  mm_cV (f_R_startAtKiosk 0 j9 x2 x4 s) fun s13 =>
  mm_ld s13 23 0 8 x3 fun v24 =>
  if ¬ v24 = ((2147483647 : Int32)) then (
    mm_ri v24 s13
  ) else (
    mm_ri ((-1 : Int32)) s13
  )
set_option maxRecDepth 100000 in
set_option maxHeartbeats 4000000 in
theorem c_X_arrival {l : Launch} {K : KK} (x1 : Int32) (x2 : Int32) (x3 : Int32) (x4 : Int32)  (s : Mem) (o : Oc) (q : Mem) (h : f_X_arrival x1 x2 x3 x4 s = some (o, q)) : Ct l K y_X_arrival b_X_arrival 6 (some .int) 3 73 [.ref (aa K 0 0), .int x1, .int x2, .int x3, .int x4] s o q := by
  refine Ct_of (own := "VillageMail") (L := [(0, _), (1, _), (2, _), (3, _), (4, _)]) (by decide +kernel) rfl (Nat.le_of_ble_eq_true rfl) rfl (fun Γ G E => ?_)
  unfold f_X_arrival at h
  refine ww_aload_n 0 G d_X_arrival_0 rfl rfl ?_
  refine ww_getr G fs_X_50 (by decide) d_X_arrival_1 ?_
  refine ww_aload_n 0 G d_X_arrival_4 rfl rfl ?_
  refine ww_getr G fs_X_16 (by decide) d_X_arrival_5 ?_
  refine ww_iload_n 1 G d_X_arrival_8 rfl rfl ?_
  refine ww_aaload G ar_5 (by decide) d_X_arrival_9 h (fun j9 hj9 h => ?_)
  refine ww_iload_n 2 G d_X_arrival_10 rfl rfl ?_
  refine ww_iload 4 G d_X_arrival_11 rfl ?_
  refine ww_cvV (As := [_, _, _]) G E cs_X_115 (by decide) (fun o q h => c_R_startAtKiosk 0 j9 x2 x4 (by decide) (show j9 < 8 by omega) _ _ _ h) rfl rfl (Nat.le_of_ble_eq_true rfl) d_X_arrival_13 (by decide) h (fun s13 h => ?_)
  refine ww_aload_n 0 G d_X_arrival_16 rfl rfl ?_
  refine ww_getr G fs_X_50 (by decide) d_X_arrival_17 ?_
  refine ww_getr G fs_X_119 (by decide) d_X_arrival_20 ?_
  refine ww_iload_n 3 G d_X_arrival_23 rfl rfl ?_
  refine ww_iaload G ar_23 (by decide) d_X_arrival_24 h (fun v24 h => ?_)
  refine ww_istore (L' := [(5, _), (0, _), (1, _), (2, _), (3, _), (4, _)]) G d_X_arrival_25 (by decide) rfl ?_
  refine ww_iload 0 G d_X_arrival_27 rfl ?_
  refine ww_ldc (v := (2147483647 : Int32)) G d_X_arrival_29 kw_X_123 ?_
  refine ww_icmpne (tgt := 38) G d_X_arrival_31 (by decide) h (fun h => ?_) (fun h => ?_)
  · skip
    refine ww_iload 0 G d_X_arrival_38 rfl ?_
    exact ww_iret G E d_X_arrival_40 h
  · skip
    refine ww_iconst (v := (-1 : Int32)) G d_X_arrival_34 ic_m1 ?_
    refine ww_goto (tgt := 40) G d_X_arrival_35 (by decide) ?_
    exact ww_iret G E d_X_arrival_40 h
def f_X_best (x1 : Int32) (x2 : Int32) (x3 : Int32) (s : Mem) : RR :=
  mm_cI (f_X_isKiosk x1 s) fun v1 s1 =>
  mm_jn (fun (y29 : Int32) s29 =>
    mm_tV (f_X_demand y29 s29) fun s29 =>
    mm_gf s29 0 0 3 fun v34 =>
    mm_cI (f_X_arrival v34 x1 x2 x3 s29) fun v40 s40 =>
    mm_ri v40 s40
  ) (fun r29 =>
  if v1 = 0 then (
    r29 ((0 : Int32)) s1
  ) else (
    mm_cI (f_X_isKiosk x2 s1) fun v8 s8 =>
    if v8 = 0 then (
      r29 ((0 : Int32)) s8
    ) else (
      if x3 < 0 then (
        r29 ((0 : Int32)) s8
      ) else (
        if ((2000000000 : Int32)) < x3 then (
          r29 ((0 : Int32)) s8
        ) else (
          r29 ((1 : Int32)) s8
        )
      )
    )
  ))
set_option maxRecDepth 100000 in
set_option maxHeartbeats 4000000 in
theorem c_X_best {l : Launch} {K : KK} (x1 : Int32) (x2 : Int32) (x3 : Int32)  (s : Mem) (o : Oc) (q : Mem) (h : f_X_best x1 x2 x3 s = some (o, q)) : Ct l K y_X_best b_X_best 4 (some .int) 7 109 [.ref (aa K 0 0), .int x1, .int x2, .int x3] s o q := by
  refine Ct_of (own := "VillageMail") (L := [(0, _), (1, _), (2, _), (3, _)]) (by decide +kernel) rfl (Nat.le_of_ble_eq_true rfl) rfl (fun Γ G E => ?_)
  unfold f_X_best at h
  refine ww_iload_n 1 G d_X_best_0 rfl rfl ?_
  refine ww_csI (As := [_]) G E cs_X_71 (fun o q h => c_X_isKiosk x1 _ _ _ h) rfl rfl (Nat.le_of_ble_eq_true rfl) d_X_best_1 (by decide) h (fun v1 s1 h => ?_)
  refine ww_jn h (fun (y29 : Int32) (s29 : Mem) => WW K Γ 0 s29 29 [(0, .ref (aa K 0 0)), (1, .int x1), (2, .int x2), (3, .int x3)] [.int y29]) (fun y29 s29 h => ?_) (fun r29 J29 h => ?_)
  · skip
    refine ww_tsV (As := [_]) G E cs_X_78 (fun o q h => c_X_demand y29 _ _ _ h) rfl rfl (Nat.le_of_ble_eq_true rfl) d_X_best_29 (by decide) h (fun s29 h => ?_)
    refine ww_aload_n 0 G d_X_best_32 rfl rfl ?_
    refine ww_aload_n 0 G d_X_best_33 rfl rfl ?_
    refine ww_getf G fs_X_100 (by decide) d_X_best_34 h (fun v34 h => ?_)
    refine ww_iload_n 1 G d_X_best_37 rfl rfl ?_
    refine ww_iload_n 2 G d_X_best_38 rfl rfl ?_
    refine ww_iload_n 3 G d_X_best_39 rfl rfl ?_
    refine ww_cvI (As := [_, _, _, _]) G E cs_X_111 (by decide) (fun o q h => c_X_arrival v34 x1 x2 x3 _ _ _ h) rfl rfl (Nat.le_of_ble_eq_true rfl) d_X_best_40 (by decide) h (fun v40 s40 h => ?_)
    exact ww_iret G E d_X_best_43 h
  refine ww_ifeq (tgt := 28) G d_X_best_4 (by decide) h (fun h => ?_) (fun h => ?_)
  · skip
    refine ww_iconst (v := (0 : Int32)) G d_X_best_28 ic_0 ?_
    exact J29 _ _ h
  · skip
    refine ww_iload_n 2 G d_X_best_7 rfl rfl ?_
    refine ww_csI (As := [_]) G E cs_X_71 (fun o q h => c_X_isKiosk x2 _ _ _ h) rfl rfl (Nat.le_of_ble_eq_true rfl) d_X_best_8 (by decide) h (fun v8 s8 h => ?_)
    refine ww_ifeq (tgt := 28) G d_X_best_11 (by decide) h (fun h => ?_) (fun h => ?_)
    · skip
      refine ww_iconst (v := (0 : Int32)) G d_X_best_28 ic_0 ?_
      exact J29 _ _ h
    · skip
      refine ww_iload_n 3 G d_X_best_14 rfl rfl ?_
      refine ww_iflt (tgt := 28) G d_X_best_15 (by decide) h (fun h => ?_) (fun h => ?_)
      · skip
        refine ww_iconst (v := (0 : Int32)) G d_X_best_28 ic_0 ?_
        exact J29 _ _ h
      · skip
        refine ww_iload_n 3 G d_X_best_18 rfl rfl ?_
        refine ww_ldc (v := (2000000000 : Int32)) G d_X_best_19 kw_X_110 ?_
        refine ww_icmpgt (tgt := 28) G d_X_best_21 (by decide) h (fun h => ?_) (fun h => ?_)
        · skip
          refine ww_iconst (v := (0 : Int32)) G d_X_best_28 ic_0 ?_
          exact J29 _ _ h
        · skip
          refine ww_iconst (v := (1 : Int32)) G d_X_best_24 ic_1 ?_
          refine ww_goto (tgt := 29) G d_X_best_25 (by decide) ?_
          exact J29 _ _ h
def f_X_isBox (x0 : Int32) (x1 : Int32) (s : Mem) : RR :=
  mm_cI (f_X_isKiosk x0 s) fun v1 s1 =>
  if v1 = 0 then (
    mm_rz ((0 : Int32)) s1
  ) else (
    mm_cI (f_X_isWithin x1 ((3 : Int32)) s1) fun v9 s9 =>
    if v9 = 0 then (
      mm_rz ((0 : Int32)) s9
    ) else (
      mm_rz ((1 : Int32)) s9
    )
  )
set_option maxRecDepth 100000 in
set_option maxHeartbeats 4000000 in
theorem c_X_isBox {l : Launch} {K : KK} (x0 : Int32) (x1 : Int32)  (s : Mem) (o : Oc) (q : Mem) (h : f_X_isBox x0 x1 s = some (o, q)) : Ct l K y_X_isBox b_X_isBox 2 (some .boolean) 2 41 [.int x0, .int x1] s o q := by
  refine Ct_of (own := "VillageMail") (L := [(0, _), (1, _)]) (by decide +kernel) rfl (Nat.le_of_ble_eq_true rfl) rfl (fun Γ G E => ?_)
  unfold f_X_isBox at h
  refine ww_iload_n 0 G d_X_isBox_0 rfl rfl ?_
  refine ww_csI (As := [_]) G E cs_X_71 (fun o q h => c_X_isKiosk x0 _ _ _ h) rfl rfl (Nat.le_of_ble_eq_true rfl) d_X_isBox_1 (by decide) h (fun v1 s1 h => ?_)
  refine ww_ifeq (tgt := 19) G d_X_isBox_4 (by decide) h (fun h => ?_) (fun h => ?_)
  · skip
    refine ww_iconst (v := (0 : Int32)) G d_X_isBox_19 ic_0 ?_
    exact ww_zret G E d_X_isBox_20 h
  · skip
    refine ww_iload_n 1 G d_X_isBox_7 rfl rfl ?_
    refine ww_iconst (v := (3 : Int32)) G d_X_isBox_8 ic_3 ?_
    refine ww_csI (As := [_, _]) G E cs_X_74 (fun o q h => c_X_isWithin x1 ((3 : Int32)) _ _ _ h) rfl rfl (Nat.le_of_ble_eq_true rfl) d_X_isBox_9 (by decide) h (fun v9 s9 h => ?_)
    refine ww_ifeq (tgt := 19) G d_X_isBox_12 (by decide) h (fun h => ?_) (fun h => ?_)
    · skip
      refine ww_iconst (v := (0 : Int32)) G d_X_isBox_19 ic_0 ?_
      exact ww_zret G E d_X_isBox_20 h
    · skip
      refine ww_iconst (v := (1 : Int32)) G d_X_isBox_15 ic_1 ?_
      refine ww_goto (tgt := 20) G d_X_isBox_16 (by decide) ?_
      exact ww_zret G E d_X_isBox_20 h
def f_X_piecesIn (x0 : Int32) (s : Mem) : RR :=
  mm_ri (((x0 + ((8 : Int32))) - ((1 : Int32))) / ((8 : Int32))) s
set_option maxRecDepth 100000 in
set_option maxHeartbeats 4000000 in
theorem c_X_piecesIn {l : Launch} {K : KK} (x0 : Int32)  (s : Mem) (o : Oc) (q : Mem) (h : f_X_piecesIn x0 s = some (o, q)) : Ct l K y_X_piecesIn b_X_piecesIn 1 (some .int) 0 0 [.int x0] s o q := by
  refine Ct_of (own := "VillageMail") (L := [(0, _)]) (by decide +kernel) rfl (Nat.le_of_ble_eq_true rfl) rfl (fun Γ G E => ?_)
  unfold f_X_piecesIn at h
  refine ww_iload_n 0 G d_X_piecesIn_0 rfl rfl ?_
  refine ww_bipush (v := (8 : Int32)) G d_X_piecesIn_1 ib_8 ?_
  refine ww_iadd G d_X_piecesIn_3 ?_
  refine ww_iconst (v := (1 : Int32)) G d_X_piecesIn_4 ic_1 ?_
  refine ww_isub G d_X_piecesIn_5 ?_
  refine ww_bipush (v := (8 : Int32)) G d_X_piecesIn_6 ib_8 ?_
  refine ww_idiv G d_X_piecesIn_8 (by decide) ?_
  exact ww_iret G E d_X_piecesIn_9 h
def f_X_byteAt (x0 : Int64) (x2 : Int32) (s : Mem) : RR :=
  mm_ri (((mm_lushr x0 (((8 : Int32)) * x2)).toInt32) &&& ((255 : Int32))) s
set_option maxRecDepth 100000 in
set_option maxHeartbeats 4000000 in
theorem c_X_byteAt {l : Launch} {K : KK} (x0 : Int64) (x2 : Int32)  (s : Mem) (o : Oc) (q : Mem) (h : f_X_byteAt x0 x2 s = some (o, q)) : Ct l K y_X_byteAt b_X_byteAt 3 (some .int) 0 0 [.long x0, .int x2] s o q := by
  refine Ct_of (own := "VillageMail") (L := [(0, _), (2, _)]) (by decide +kernel) rfl (Nat.le_of_ble_eq_true rfl) rfl (fun Γ G E => ?_)
  unfold f_X_byteAt at h
  refine ww_lload_n 0 G d_X_byteAt_0 rfl rfl ?_
  refine ww_bipush (v := (8 : Int32)) G d_X_byteAt_1 ib_8 ?_
  refine ww_iload_n 1 G d_X_byteAt_3 rfl rfl ?_
  refine ww_imul G d_X_byteAt_4 ?_
  refine ww_lushr G d_X_byteAt_5 ?_
  refine ww_l2i G d_X_byteAt_6 ?_
  refine ww_sipush (v := (255 : Int32)) G d_X_byteAt_7 is_255 ?_
  refine ww_iand G d_X_byteAt_10 ?_
  exact ww_iret G E d_X_byteAt_11 h
def lp_X_sumOf_20_4 (i0 : Nat) (x1 : Int32) (k : Int32 → Mem → RR) : Nat → Int32 → Int32 → Mem → RR
  | 0, _, _, _ => none
  | n + 1, x2, x3, s =>
    if x1 ≤ x3 then (
      k x2 s
    ) else (
      mm_ldj s 20 i0 4 (x3 / ((8 : Int32))) fun v22 =>
      mm_cI (f_X_byteAt v22 (mm_irem x3 ((8 : Int32))) s) fun v27 s27 =>
      lp_X_sumOf_20_4 i0 x1 k n (((mm_ishl x2 ((5 : Int32))) ||| (mm_iushr x2 ((27 : Int32)))) ^^^ v27) (x3 + (1 : Int32)) s27
    )
set_option maxRecDepth 100000 in
set_option maxHeartbeats 4000000 in
theorem lp_X_sumOf_20_4_ok {K : KK} {Γ : Cx} {o : Oc} {q : Mem} (i0 : Nat) (x1 : Int32) (h0 : i0 < 16) (k : Int32 → Mem → RR) (G : Good K Γ b_X_sumOf "VillageMail" 4 1 22) (E : Ends K Γ (some .int) o q)
    (Kx : ∀ (x2 : Int32) (s : Mem), k x2 s = some (o, q) → WW K Γ 0 s 38 [(2, .int x2)] []) :
    ∀ (n : Nat) (x2 : Int32) (x3 : Int32) (s : Mem), lp_X_sumOf_20_4 i0 x1 k n x2 x3 s = some (o, q) → WW K Γ 0 s 4 [(0, .ref (aa K 20 i0)), (1, .int x1), (2, .int x2), (3, .int x3)] [] := by
  intro n
  induction n with
  | zero => intro _ _ _ h; exact nomatch h
  | succ n ih =>
    intro x2 x3 s h
    unfold lp_X_sumOf_20_4 at h
    refine ww_iload_n 3 G d_X_sumOf_4 rfl rfl ?_
    refine ww_iload_n 1 G d_X_sumOf_5 rfl rfl ?_
    refine ww_icmpge (tgt := 38) G d_X_sumOf_6 (by decide) h (fun h => ?_) (fun h => ?_)
    · skip
      refine ww_sub [2] rfl ?_
      exact Kx _ _ h
    · skip
      refine ww_iload_n 2 G d_X_sumOf_9 rfl rfl ?_
      refine ww_iconst (v := (5 : Int32)) G d_X_sumOf_10 ic_5 ?_
      refine ww_ishl G d_X_sumOf_11 ?_
      refine ww_iload_n 2 G d_X_sumOf_12 rfl rfl ?_
      refine ww_bipush (v := (27 : Int32)) G d_X_sumOf_13 ib_27 ?_
      refine ww_iushr G d_X_sumOf_15 ?_
      refine ww_ior G d_X_sumOf_16 ?_
      refine ww_aload_n 0 G d_X_sumOf_17 rfl rfl ?_
      refine ww_iload_n 3 G d_X_sumOf_18 rfl rfl ?_
      refine ww_bipush (v := (8 : Int32)) G d_X_sumOf_19 ib_8 ?_
      refine ww_idiv G d_X_sumOf_21 (by decide) ?_
      refine ww_laload G ar_20 h0 d_X_sumOf_22 h (fun v22 h => ?_)
      refine ww_iload_n 3 G d_X_sumOf_23 rfl rfl ?_
      refine ww_bipush (v := (8 : Int32)) G d_X_sumOf_24 ib_8 ?_
      refine ww_irem G d_X_sumOf_26 (by decide) ?_
      refine ww_csI (As := [_, _]) G E cs_X_158 (fun o q h => c_X_byteAt v22 (mm_irem x3 ((8 : Int32))) _ _ _ h) rfl rfl (Nat.le_of_ble_eq_true rfl) d_X_sumOf_27 (by decide) h (fun v27 s27 h => ?_)
      refine ww_ixor G d_X_sumOf_30 ?_
      refine ww_istore_n (L' := [(2, _), (0, _), (1, _), (3, _)]) G d_X_sumOf_31 rfl (by decide) rfl ?_
      refine ww_iinc 3 (L' := [(3, _), (2, _), (0, _), (1, _)]) G d_X_sumOf_32 rfl ic_1 (by decide) rfl ?_
      refine ww_goto (tgt := 4) G d_X_sumOf_35 (by decide) ?_
      refine ww_sub [2, 3, 1, 0] rfl ?_
      exact ih _ _ _ h
def f_X_sumOf_20 (i0 : Nat) (x1 : Int32) (s : Mem) : RR :=
  mm_lp (fun kk => lp_X_sumOf_20_4 i0 x1 kk FU ((0 : Int32)) ((0 : Int32)) s) fun x2_4 s4 =>
  mm_ri x2_4 s4
set_option maxRecDepth 100000 in
set_option maxHeartbeats 4000000 in
theorem c_X_sumOf_20 {l : Launch} {K : KK} (i0 : Nat) (x1 : Int32) (h0 : i0 < 16) (s : Mem) (o : Oc) (q : Mem) (h : f_X_sumOf_20 i0 x1 s = some (o, q)) : Ct l K y_X_sumOf b_X_sumOf 4 (some .int) 1 22 [.ref (aa K 20 i0), .int x1] s o q := by
  refine Ct_of (own := "VillageMail") (L := [(0, _), (1, _)]) (by decide +kernel) rfl (Nat.le_of_ble_eq_true rfl) rfl (fun Γ G E => ?_)
  unfold f_X_sumOf_20 at h
  refine ww_iconst (v := (0 : Int32)) G d_X_sumOf_0 ic_0 ?_
  refine ww_istore_n (L' := [(2, _), (0, _), (1, _)]) G d_X_sumOf_1 rfl (by decide) rfl ?_
  refine ww_iconst (v := (0 : Int32)) G d_X_sumOf_2 ic_0 ?_
  refine ww_istore_n (L' := [(3, _), (2, _), (0, _), (1, _)]) G d_X_sumOf_3 rfl (by decide) rfl ?_
  refine ww_sub [2, 3, 1, 0] rfl ?_
  refine lp_X_sumOf_20_4_ok i0 x1 h0 _ G E (fun x2_4 s4 h => ?_) FU _ _ _ h
  refine ww_iload_n 0 G d_X_sumOf_38 rfl rfl ?_
  exact ww_iret G E d_X_sumOf_39 h

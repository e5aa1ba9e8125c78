def f_X_store (x1 : Int32) (x2 : Int32) (s : Mem) : RR :=
  mm_cI (f_X_isStore x1 s) fun v1 s1 =>
  mm_jn (fun (y20 : Int32) s20 =>
    mm_tV (f_X_demand y20 s20) fun s20 =>
    mm_al 12 x1 fun j28 =>
    if x2 = (0 : Int32) then (
      mm_cI (f_S_room j28 s20) fun v57 s57 =>
      mm_ri v57 s57
    ) else (
    if x2 = (1 : Int32) then (
      mm_gf s20 7 j28 6 fun v62 =>
      mm_ri v62 s20
    ) else (
    if x2 = (2 : Int32) then (
      mm_gf s20 7 j28 7 fun v67 =>
      mm_ri v67 s20
    ) else (
    mm_gf s20 7 j28 8 fun v72 =>
    mm_ri v72 s20
    )))
  ) (fun r20 =>
  if v1 = 0 then (
    r20 ((0 : Int32)) s1
  ) else (
    mm_cI (f_X_isWithin x2 ((4 : Int32)) s1) fun v9 s9 =>
    if v9 = 0 then (
      r20 ((0 : Int32)) s9
    ) else (
      r20 ((1 : Int32)) s9
    )
  ))
set_option maxRecDepth 100000 in
set_option maxHeartbeats 4000000 in
theorem c_X_store {l : Launch} {K : KK} (x1 : Int32) (x2 : Int32)  (s : Mem) (o : Oc) (q : Mem) (h : f_X_store x1 x2 s = some (o, q)) : Ct l K y_X_store b_X_store 4 (some .int) 7 109 [.ref (aa K 0 0), .int x1, .int x2] s o q := by
  refine Ct_of (own := "VillageMail") (L := [(0, _), (1, _), (2, _)]) (by decide +kernel) rfl (Nat.le_of_ble_eq_true rfl) rfl (fun Γ G E => ?_)
  unfold f_X_store at h
  refine ww_iload_n 1 G d_X_store_0 rfl rfl ?_
  refine ww_csI (As := [_]) G E cs_X_335 (fun o q h => c_X_isStore x1 _ _ _ h) rfl rfl (Nat.le_of_ble_eq_true rfl) d_X_store_1 (by decide) h (fun v1 s1 h => ?_)
  refine ww_jn h (fun (y20 : Int32) (s20 : Mem) => WW K Γ 0 s20 20 [(0, .ref (aa K 0 0)), (1, .int x1), (2, .int x2)] [.int y20]) (fun y20 s20 h => ?_) (fun r20 J20 h => ?_)
  · skip
    refine ww_tsV (As := [_]) G E cs_X_78 (fun o q h => c_X_demand y20 _ _ _ h) rfl rfl (Nat.le_of_ble_eq_true rfl) d_X_store_20 (by decide) h (fun s20 h => ?_)
    refine ww_aload_n 0 G d_X_store_23 rfl rfl ?_
    refine ww_getr G fs_X_22 (by decide) d_X_store_24 ?_
    refine ww_iload_n 1 G d_X_store_27 rfl rfl ?_
    refine ww_aaload G ar_6 (by decide) d_X_store_28 h (fun j28 hj28 h => ?_)
    refine ww_astore_n (L' := [(3, _), (0, _), (1, _), (2, _)]) G d_X_store_29 rfl (by decide) rfl ?_
    refine ww_iload_n 3 G d_X_store_30 rfl rfl ?_
    refine ww_tab (w := (0 : Int32)) h (fun hc h => ?_) (fun hc0 h => ?_)
    · refine ww_tabIn (tgt := 56) G d_X_store_31 hc (by decide) (by decide) rfl (by decide) ?_
      refine ww_aload_n 0 G d_X_store_56 rfl rfl ?_
      refine ww_cvI (As := []) G E cs_X_174 hj28 (fun o q h => c_S_room j28 hj28 _ _ _ h) rfl rfl (Nat.le_of_ble_eq_true rfl) d_X_store_57 (by decide) h (fun v57 s57 h => ?_)
      exact ww_iret G E d_X_store_60 h
    refine ww_tab (w := (1 : Int32)) h (fun hc h => ?_) (fun hc1 h => ?_)
    · refine ww_tabIn (tgt := 61) G d_X_store_31 hc (by decide) (by decide) rfl (by decide) ?_
      refine ww_aload_n 0 G d_X_store_61 rfl rfl ?_
      refine ww_getf G fs_X_107 hj28 d_X_store_62 h (fun v62 h => ?_)
      exact ww_iret G E d_X_store_65 h
    refine ww_tab (w := (2 : Int32)) h (fun hc h => ?_) (fun hc2 h => ?_)
    · refine ww_tabIn (tgt := 66) G d_X_store_31 hc (by decide) (by decide) rfl (by decide) ?_
      refine ww_aload_n 0 G d_X_store_66 rfl rfl ?_
      refine ww_getf G fs_X_247 hj28 d_X_store_67 h (fun v67 h => ?_)
      exact ww_iret G E d_X_store_70 h
    refine ww_tabOut (tgt := 71) G d_X_store_31 (tab_out3 hc0 hc1 hc2) (by decide) ?_
    refine ww_aload_n 0 G d_X_store_71 rfl rfl ?_
    refine ww_getf G fs_X_329 hj28 d_X_store_72 h (fun v72 h => ?_)
    exact ww_iret G E d_X_store_75 h
  refine ww_ifeq (tgt := 19) G d_X_store_4 (by decide) h (fun h => ?_) (fun h => ?_)
  · skip
    refine ww_iconst (v := (0 : Int32)) G d_X_store_19 ic_0 ?_
    exact J20 _ _ h
  · skip
    refine ww_iload_n 2 G d_X_store_7 rfl rfl ?_
    refine ww_iconst (v := (4 : Int32)) G d_X_store_8 ic_4 ?_
    refine ww_csI (As := [_, _]) G E cs_X_74 (fun o q h => c_X_isWithin x2 ((4 : Int32)) _ _ _ h) rfl rfl (Nat.le_of_ble_eq_true rfl) d_X_store_9 (by decide) h (fun v9 s9 h => ?_)
    refine ww_ifeq (tgt := 19) G d_X_store_12 (by decide) h (fun h => ?_) (fun h => ?_)
    · skip
      refine ww_iconst (v := (0 : Int32)) G d_X_store_19 ic_0 ?_
      exact J20 _ _ h
    · skip
      refine ww_iconst (v := (1 : Int32)) G d_X_store_15 ic_1 ?_
      refine ww_goto (tgt := 20) G d_X_store_16 (by decide) ?_
      exact J20 _ _ h
def f_M_thrown  (s : Mem) : RR :=
  mm_gf s 30 0 31 fun v1 =>
  mm_ri v1 s
set_option maxRecDepth 100000 in
set_option maxHeartbeats 4000000 in
theorem c_M_thrown {l : Launch} {K : KK}   (s : Mem) (o : Oc) (q : Mem) (h : f_M_thrown s = some (o, q)) : Ct l K y_M_thrown b_M_thrown 1 (some .int) 0 0 [.ref (aa K 30 0)] s o q := by
  refine Ct_of (own := "VillageMailModel") (L := [(0, _)]) (by decide +kernel) rfl (Nat.le_of_ble_eq_true rfl) rfl (fun Γ G E => ?_)
  unfold f_M_thrown at h
  refine ww_aload_n 0 G d_M_thrown_0 rfl rfl ?_
  refine ww_getf G fs_M_104 (by decide) d_M_thrown_1 h (fun v1 h => ?_)
  exact ww_iret G E d_M_thrown_4 h
def f_M_upTo (x0 : Int32) (x1 : Int32) (s : Mem) : RR :=
  if x0 < 0 then (
    mm_rz ((0 : Int32)) s
  ) else (
    if x1 < x0 then (
      mm_rz ((0 : Int32)) s
    ) else (
      mm_rz ((1 : Int32)) s
    )
  )
set_option maxRecDepth 100000 in
set_option maxHeartbeats 4000000 in
theorem c_M_upTo {l : Launch} {K : KK} (x0 : Int32) (x1 : Int32)  (s : Mem) (o : Oc) (q : Mem) (h : f_M_upTo x0 x1 s = some (o, q)) : Ct l K y_M_upTo b_M_upTo 2 (some .boolean) 0 0 [.int x0, .int x1] s o q := by
  refine Ct_of (own := "VillageMailModel") (L := [(0, _), (1, _)]) (by decide +kernel) rfl (Nat.le_of_ble_eq_true rfl) rfl (fun Γ G E => ?_)
  unfold f_M_upTo at h
  refine ww_iload_n 0 G d_M_upTo_0 rfl rfl ?_
  refine ww_iflt (tgt := 13) G d_M_upTo_1 (by decide) h (fun h => ?_) (fun h => ?_)
  · skip
    refine ww_iconst (v := (0 : Int32)) G d_M_upTo_13 ic_0 ?_
    exact ww_zret G E d_M_upTo_14 h
  · skip
    refine ww_iload_n 0 G d_M_upTo_4 rfl rfl ?_
    refine ww_iload_n 1 G d_M_upTo_5 rfl rfl ?_
    refine ww_icmpgt (tgt := 13) G d_M_upTo_6 (by decide) h (fun h => ?_) (fun h => ?_)
    · skip
      refine ww_iconst (v := (0 : Int32)) G d_M_upTo_13 ic_0 ?_
      exact ww_zret G E d_M_upTo_14 h
    · skip
      refine ww_iconst (v := (1 : Int32)) G d_M_upTo_9 ic_1 ?_
      refine ww_goto (tgt := 14) G d_M_upTo_10 (by decide) ?_
      exact ww_zret G E d_M_upTo_14 h
def f_M_isKiosk (x0 : Int32) (s : Mem) : RR :=
  mm_cI (f_M_upTo x0 ((7 : Int32)) s) fun v3 s3 =>
  mm_rz v3 s3
set_option maxRecDepth 100000 in
set_option maxHeartbeats 4000000 in
theorem c_M_isKiosk {l : Launch} {K : KK} (x0 : Int32)  (s : Mem) (o : Oc) (q : Mem) (h : f_M_isKiosk x0 s = some (o, q)) : Ct l K y_M_isKiosk b_M_isKiosk 1 (some .boolean) 1 21 [.int x0] s o q := by
  refine Ct_of (own := "VillageMailModel") (L := [(0, _)]) (by decide +kernel) rfl (Nat.le_of_ble_eq_true rfl) rfl (fun Γ G E => ?_)
  unfold f_M_isKiosk at h
  refine ww_iload_n 0 G d_M_isKiosk_0 rfl rfl ?_
  refine ww_bipush (v := (7 : Int32)) G d_M_isKiosk_1 ib_7 ?_
  refine ww_csI (As := [_, _]) G E cs_M_108 (fun o q h => c_M_upTo x0 ((7 : Int32)) _ _ _ h) rfl rfl (Nat.le_of_ble_eq_true rfl) d_M_isKiosk_3 (by decide) h (fun v3 s3 h => ?_)
  exact ww_zret G E d_M_isKiosk_6 h
def f_M_isBus (x0 : Int32) (s : Mem) : RR :=
  if x0 < ((8 : Int32)) then (
    mm_rz ((0 : Int32)) s
  ) else (
    if ((11 : Int32)) < x0 then (
      mm_rz ((0 : Int32)) s
    ) else (
      mm_rz ((1 : Int32)) s
    )
  )
set_option maxRecDepth 100000 in
set_option maxHeartbeats 4000000 in
theorem c_M_isBus {l : Launch} {K : KK} (x0 : Int32)  (s : Mem) (o : Oc) (q : Mem) (h : f_M_isBus x0 s = some (o, q)) : Ct l K y_M_isBus b_M_isBus 1 (some .boolean) 0 0 [.int x0] s o q := by
  refine Ct_of (own := "VillageMailModel") (L := [(0, _)]) (by decide +kernel) rfl (Nat.le_of_ble_eq_true rfl) rfl (fun Γ G E => ?_)
  unfold f_M_isBus at h
  refine ww_iload_n 0 G d_M_isBus_0 rfl rfl ?_
  refine ww_bipush (v := (8 : Int32)) G d_M_isBus_1 ib_8 ?_
  refine ww_icmplt (tgt := 16) G d_M_isBus_3 (by decide) h (fun h => ?_) (fun h => ?_)
  · skip
    refine ww_iconst (v := (0 : Int32)) G d_M_isBus_16 ic_0 ?_
    exact ww_zret G E d_M_isBus_17 h
  · skip
    refine ww_iload_n 0 G d_M_isBus_6 rfl rfl ?_
    refine ww_bipush (v := (11 : Int32)) G d_M_isBus_7 ib_11 ?_
    refine ww_icmpgt (tgt := 16) G d_M_isBus_9 (by decide) h (fun h => ?_) (fun h => ?_)
    · skip
      refine ww_iconst (v := (0 : Int32)) G d_M_isBus_16 ic_0 ?_
      exact ww_zret G E d_M_isBus_17 h
    · skip
      refine ww_iconst (v := (1 : Int32)) G d_M_isBus_12 ic_1 ?_
      refine ww_goto (tgt := 17) G d_M_isBus_13 (by decide) ?_
      exact ww_zret G E d_M_isBus_17 h
def f_M_isLetter (x1 : Int32) (s : Mem) : RR :=
  if x1 < 0 then (
    mm_rz ((0 : Int32)) s
  ) else (
    mm_gf s 30 0 7 fun v6 =>
    if v6 ≤ x1 then (
      mm_rz ((0 : Int32)) s
    ) else (
      mm_rz ((1 : Int32)) s
    )
  )
set_option maxRecDepth 100000 in
set_option maxHeartbeats 4000000 in
theorem c_M_isLetter {l : Launch} {K : KK} (x1 : Int32)  (s : Mem) (o : Oc) (q : Mem) (h : f_M_isLetter x1 s = some (o, q)) : Ct l K y_M_isLetter b_M_isLetter 2 (some .boolean) 0 0 [.ref (aa K 30 0), .int x1] s o q := by
  refine Ct_of (own := "VillageMailModel") (L := [(0, _), (1, _)]) (by decide +kernel) rfl (Nat.le_of_ble_eq_true rfl) rfl (fun Γ G E => ?_)
  unfold f_M_isLetter at h
  refine ww_iload_n 1 G d_M_isLetter_0 rfl rfl ?_
  refine ww_iflt (tgt := 16) G d_M_isLetter_1 (by decide) h (fun h => ?_) (fun h => ?_)
  · skip
    refine ww_iconst (v := (0 : Int32)) G d_M_isLetter_16 ic_0 ?_
    exact ww_zret G E d_M_isLetter_17 h
  · skip
    refine ww_iload_n 1 G d_M_isLetter_4 rfl rfl ?_
    refine ww_aload_n 0 G d_M_isLetter_5 rfl rfl ?_
    refine ww_getf G fs_M_112 (by decide) d_M_isLetter_6 h (fun v6 h => ?_)
    refine ww_icmpge (tgt := 16) G d_M_isLetter_9 (by decide) h (fun h => ?_) (fun h => ?_)
    · skip
      refine ww_iconst (v := (0 : Int32)) G d_M_isLetter_16 ic_0 ?_
      exact ww_zret G E d_M_isLetter_17 h
    · skip
      refine ww_iconst (v := (1 : Int32)) G d_M_isLetter_12 ic_1 ?_
      refine ww_goto (tgt := 17) G d_M_isLetter_13 (by decide) ?_
      exact ww_zret G E d_M_isLetter_17 h
def lp_M_stopAt_4 (x1 : Int32) (x2 : Int32) (k : Mem → RR) : Nat → Int32 → Mem → RR
  | 0, _, _ => none
  | n + 1, x3, s =>
    mm_ld s 34 0 8 ((7 : Int32)) fun v14 =>
    if (((168 : Int32)) + v14) ≤ x3 then (
      k s
    ) else (
      mm_ld s 31 0 192 x3 fun v24 =>
      if ¬ v24 = x1 then (
        lp_M_stopAt_4 x1 x2 k n (x3 + (1 : Int32)) s
      ) else (
        mm_ld s 33 0 192 x3 fun v34 =>
        if ¬ v34 = x2 then (
          lp_M_stopAt_4 x1 x2 k n (x3 + (1 : Int32)) s
        ) else (
          mm_ri x3 s
        )
      )
    )
set_option maxRecDepth 100000 in
set_option maxHeartbeats 4000000 in
theorem lp_M_stopAt_4_ok {K : KK} {Γ : Cx} {o : Oc} {q : Mem} (x1 : Int32) (x2 : Int32)  (k : Mem → RR) (G : Good K Γ b_M_stopAt "VillageMailModel" 4 0 0) (E : Ends K Γ (some .int) o q)
    (Kx : ∀  (s : Mem), k s = some (o, q) → WW K Γ 0 s 47 [] []) :
    ∀ (n : Nat) (x3 : Int32) (s : Mem), lp_M_stopAt_4 x1 x2 k n x3 s = some (o, q) → WW K Γ 0 s 4 [(0, .ref (aa K 30 0)), (1, .int x1), (2, .int x2), (3, .int x3)] [] := by
  intro n
  induction n with
  | zero => intro _ _ h; exact nomatch h
  | succ n ih =>
    intro x3 s h
    unfold lp_M_stopAt_4 at h
    refine ww_iload_n 3 G d_M_stopAt_4 rfl rfl ?_
    refine ww_sipush (v := (168 : Int32)) G d_M_stopAt_5 is_168 ?_
    refine ww_aload_n 0 G d_M_stopAt_8 rfl rfl ?_
    refine ww_getr G fs_M_19 (by decide) d_M_stopAt_9 ?_
    refine ww_bipush (v := (7 : Int32)) G d_M_stopAt_12 ib_7 ?_
    refine ww_iaload G ar_34 (by decide) d_M_stopAt_14 h (fun v14 h => ?_)
    refine ww_iadd G d_M_stopAt_15 ?_
    refine ww_icmpge (tgt := 47) G d_M_stopAt_16 (by decide) h (fun h => ?_) (fun h => ?_)
    · skip
      refine ww_sub [] rfl ?_
      exact Kx  _ h
    · skip
      refine ww_aload_n 0 G d_M_stopAt_19 rfl rfl ?_
      refine ww_getr G fs_M_7 (by decide) d_M_stopAt_20 ?_
      refine ww_iload_n 3 G d_M_stopAt_23 rfl rfl ?_
      refine ww_iaload G ar_31 (by decide) d_M_stopAt_24 h (fun v24 h => ?_)
      refine ww_iload_n 1 G d_M_stopAt_25 rfl rfl ?_
      refine ww_icmpne (tgt := 41) G d_M_stopAt_26 (by decide) h (fun h => ?_) (fun h => ?_)
      · skip
        refine ww_iinc 3 (L' := [(3, _), (0, _), (1, _), (2, _)]) G d_M_stopAt_41 rfl ic_1 (by decide) rfl ?_
        refine ww_goto (tgt := 4) G d_M_stopAt_44 (by decide) ?_
        refine ww_sub [1, 2, 3, 0] rfl ?_
        exact ih _ _ h
      · skip
        refine ww_aload_n 0 G d_M_stopAt_29 rfl rfl ?_
        refine ww_getr G fs_M_16 (by decide) d_M_stopAt_30 ?_
        refine ww_iload_n 3 G d_M_stopAt_33 rfl rfl ?_
        refine ww_iaload G ar_33 (by decide) d_M_stopAt_34 h (fun v34 h => ?_)
        refine ww_iload_n 2 G d_M_stopAt_35 rfl rfl ?_
        refine ww_icmpne (tgt := 41) G d_M_stopAt_36 (by decide) h (fun h => ?_) (fun h => ?_)
        · skip
          refine ww_iinc 3 (L' := [(3, _), (0, _), (1, _), (2, _)]) G d_M_stopAt_41 rfl ic_1 (by decide) rfl ?_
          refine ww_goto (tgt := 4) G d_M_stopAt_44 (by decide) ?_
          refine ww_sub [1, 2, 3, 0] rfl ?_
          exact ih _ _ h
        · skip
          refine ww_iload_n 3 G d_M_stopAt_39 rfl rfl ?_
          exact ww_iret G E d_M_stopAt_40 h
def f_M_stopAt (x1 : Int32) (x2 : Int32) (s : Mem) : RR :=
  mm_lp (fun kk => lp_M_stopAt_4 x1 x2 kk FU ((168 : Int32)) s) fun s4 =>
  mm_ri ((-1 : Int32)) s4
set_option maxRecDepth 100000 in
set_option maxHeartbeats 4000000 in
theorem c_M_stopAt {l : Launch} {K : KK} (x1 : Int32) (x2 : Int32)  (s : Mem) (o : Oc) (q : Mem) (h : f_M_stopAt x1 x2 s = some (o, q)) : Ct l K y_M_stopAt b_M_stopAt 4 (some .int) 0 0 [.ref (aa K 30 0), .int x1, .int x2] s o q := by
  refine Ct_of (own := "VillageMailModel") (L := [(0, _), (1, _), (2, _)]) (by decide +kernel) rfl (Nat.le_of_ble_eq_true rfl) rfl (fun Γ G E => ?_)
  unfold f_M_stopAt at h
  refine ww_sipush (v := (168 : Int32)) G d_M_stopAt_0 is_168 ?_
  refine ww_istore_n (L' := [(3, _), (0, _), (1, _), (2, _)]) G d_M_stopAt_3 rfl (by decide) rfl ?_
  refine ww_sub [1, 2, 3, 0] rfl ?_
  refine lp_M_stopAt_4_ok x1 x2 _ G E (fun s4 h => ?_) FU _ _ h
  refine ww_iconst (v := (-1 : Int32)) G d_M_stopAt_47 ic_m1 ?_
  exact ww_iret G E d_M_stopAt_48 h
def f_M_copyStop (x1 : Int32) (x2 : Int32) (s : Mem) : RR :=
  mm_ld s 31 0 192 x1 fun v10 =>
  mm_st s 31 0 192 x2 v10 fun s11 =>
  mm_ld s11 32 0 192 x1 fun v22 =>
  mm_st s11 32 0 192 x2 v22 fun s23 =>
  mm_ld s23 33 0 192 x1 fun v34 =>
  mm_st s23 33 0 192 x2 v34 fun s35 =>
  mm_rv s35
set_option maxRecDepth 100000 in
set_option maxHeartbeats 4000000 in
theorem c_M_copyStop {l : Launch} {K : KK} (x1 : Int32) (x2 : Int32)  (s : Mem) (o : Oc) (q : Mem) (h : f_M_copyStop x1 x2 s = some (o, q)) : Ct l K y_M_copyStop b_M_copyStop 3 none 0 0 [.ref (aa K 30 0), .int x1, .int x2] s o q := by
  refine Ct_of (own := "VillageMailModel") (L := [(0, _), (1, _), (2, _)]) (by decide +kernel) rfl (Nat.le_of_ble_eq_true rfl) rfl (fun Γ G E => ?_)
  unfold f_M_copyStop at h
  refine ww_aload_n 0 G d_M_copyStop_0 rfl rfl ?_
  refine ww_getr G fs_M_7 (by decide) d_M_copyStop_1 ?_
  refine ww_iload_n 2 G d_M_copyStop_4 rfl rfl ?_
  refine ww_aload_n 0 G d_M_copyStop_5 rfl rfl ?_
  refine ww_getr G fs_M_7 (by decide) d_M_copyStop_6 ?_
  refine ww_iload_n 1 G d_M_copyStop_9 rfl rfl ?_
  refine ww_iaload G ar_31 (by decide) d_M_copyStop_10 h (fun v10 h => ?_)
  refine ww_iastore G ar_31 (by decide) d_M_copyStop_11 h (fun s11 h => ?_)
  refine ww_aload_n 0 G d_M_copyStop_12 rfl rfl ?_
  refine ww_getr G fs_M_13 (by decide) d_M_copyStop_13 ?_
  refine ww_iload_n 2 G d_M_copyStop_16 rfl rfl ?_
  refine ww_aload_n 0 G d_M_copyStop_17 rfl rfl ?_
  refine ww_getr G fs_M_13 (by decide) d_M_copyStop_18 ?_
  refine ww_iload_n 1 G d_M_copyStop_21 rfl rfl ?_
  refine ww_iaload G ar_32 (by decide) d_M_copyStop_22 h (fun v22 h => ?_)
  refine ww_iastore G ar_32 (by decide) d_M_copyStop_23 h (fun s23 h => ?_)
  refine ww_aload_n 0 G d_M_copyStop_24 rfl rfl ?_
  refine ww_getr G fs_M_16 (by decide) d_M_copyStop_25 ?_
  refine ww_iload_n 2 G d_M_copyStop_28 rfl rfl ?_
  refine ww_aload_n 0 G d_M_copyStop_29 rfl rfl ?_
  refine ww_getr G fs_M_16 (by decide) d_M_copyStop_30 ?_
  refine ww_iload_n 1 G d_M_copyStop_33 rfl rfl ?_
  refine ww_iaload G ar_33 (by decide) d_M_copyStop_34 h (fun v34 h => ?_)
  refine ww_iastore G ar_33 (by decide) d_M_copyStop_35 h (fun s35 h => ?_)
  exact ww_vret G E d_M_copyStop_36 h
def f_M_stop (x1 : Int32) (x2 : Int32) (x3 : Int32) (s : Mem) : RR :=
  mm_cI (f_M_isBus x1 s) fun v1 s1 =>
  mm_jn (fun (y29 : Int32) s29 =>
    mm_jn (fun (y67 : Int32) s67 =>
      mm_pf s67 30 0 31 y67 fun s67 =>
      mm_gf s67 30 0 31 fun v71 =>
      if v71 = 0 then (
        mm_ld s67 34 0 8 ((7 : Int32)) fun v88 =>
        mm_st s67 31 0 192 (((168 : Int32)) + v88) x1 fun s99 =>
        mm_st s99 32 0 192 (((168 : Int32)) + v88) x2 fun s107 =>
        mm_st s107 33 0 192 (((168 : Int32)) + v88) x3 fun s115 =>
        mm_ld s115 34 0 8 ((7 : Int32)) fun v123 =>
        mm_st s115 34 0 8 ((7 : Int32)) (v123 + ((1 : Int32))) fun s126 =>
        mm_ld s126 34 0 8 ((7 : Int32)) fun v133 =>
        mm_ri v133 s126
      ) else (
        mm_ri ((0 : Int32)) s67
      )
    ) (fun r67 =>
    if ¬ y29 = 0 then (
      mm_cI (f_M_stopAt x1 x3 s29) fun v44 s44 =>
      if 0 ≤ v44 then (
        r67 ((2 : Int32)) s44
      ) else (
        mm_ld s44 34 0 8 ((7 : Int32)) fun v56 =>
        if ¬ v56 = ((24 : Int32)) then (
          r67 ((0 : Int32)) s44
        ) else (
          r67 ((2 : Int32)) s44
        )
      )
    ) else (
      r67 ((1 : Int32)) s29
    ))
  ) (fun r29 =>
  if v1 = 0 then (
    r29 ((0 : Int32)) s1
  ) else (
    mm_cI (f_M_isKiosk x2 s1) fun v8 s8 =>
    if v8 = 0 then (
      r29 ((0 : Int32)) s8
    ) else (
      mm_cI (f_M_upTo x3 ((10079 : Int32)) s8) fun v18 s18 =>
      if v18 = 0 then (
        r29 ((0 : Int32)) s18
      ) else (
        r29 ((1 : Int32)) s18
      )
    )
  ))
set_option maxRecDepth 100000 in
set_option maxHeartbeats 4000000 in
theorem c_M_stop {l : Launch} {K : KK} (x1 : Int32) (x2 : Int32) (x3 : Int32)  (s : Mem) (o : Oc) (q : Mem) (h : f_M_stop x1 x2 x3 s = some (o, q)) : Ct l K y_M_stop b_M_stop 6 (some .int) 2 41 [.ref (aa K 30 0), .int x1, .int x2, .int x3] s o q := by
  refine Ct_of (own := "VillageMailModel") (L := [(0, _), (1, _), (2, _), (3, _)]) (by decide +kernel) rfl (Nat.le_of_ble_eq_true rfl) rfl (fun Γ G E => ?_)
  unfold f_M_stop at h
  refine ww_iload_n 1 G d_M_stop_0 rfl rfl ?_
  refine ww_csI (As := [_]) G E cs_M_115 (fun o q h => c_M_isBus x1 _ _ _ h) rfl rfl (Nat.le_of_ble_eq_true rfl) d_M_stop_1 (by decide) h (fun v1 s1 h => ?_)
  refine ww_jn h (fun (y29 : Int32) (s29 : Mem) => WW K Γ 0 s29 29 [(0, .ref (aa K 30 0)), (1, .int x1), (2, .int x2), (3, .int x3)] [.int y29]) (fun y29 s29 h => ?_) (fun r29 J29 h => ?_)
  · skip
    refine ww_istore (L' := [(4, _), (0, _), (1, _), (2, _), (3, _)]) G d_M_stop_29 (by decide) rfl ?_
    refine ww_aload_n 1 G d_M_stop_31 rfl rfl ?_
    refine ww_iload 0 G d_M_stop_32 rfl ?_
    refine ww_jn h (fun (y67 : Int32) (s67 : Mem) => WW K Γ 0 s67 67 [(0, .ref (aa K 30 0)), (1, .int x1), (2, .int x2), (3, .int x3)] [.int y67, .ref (aa K 30 0)]) (fun y67 s67 h => ?_) (fun r67 J67 h => ?_)
    · skip
      refine ww_putf G fs_M_104 (by decide) d_M_stop_67 h (fun s67 h => ?_)
      refine ww_aload_n 0 G d_M_stop_70 rfl rfl ?_
      refine ww_getf G fs_M_104 (by decide) d_M_stop_71 h (fun v71 h => ?_)
      refine ww_ifeq (tgt := 79) G d_M_stop_74 (by decide) h (fun h => ?_) (fun h => ?_)
      · skip
        refine ww_sipush (v := (168 : Int32)) G d_M_stop_79 is_168 ?_
        refine ww_aload_n 0 G d_M_stop_82 rfl rfl ?_
        refine ww_getr G fs_M_19 (by decide) d_M_stop_83 ?_
        refine ww_bipush (v := (7 : Int32)) G d_M_stop_86 ib_7 ?_
        refine ww_iaload G ar_34 (by decide) d_M_stop_88 h (fun v88 h => ?_)
        refine ww_iadd G d_M_stop_89 ?_
        refine ww_istore (L' := [(5, _), (0, _), (1, _), (2, _), (3, _)]) G d_M_stop_90 (by decide) rfl ?_
        refine ww_aload_n 1 G d_M_stop_92 rfl rfl ?_
        refine ww_getr G fs_M_7 (by decide) d_M_stop_93 ?_
        refine ww_iload 0 G d_M_stop_96 rfl ?_
        refine ww_iload_n 2 G d_M_stop_98 rfl rfl ?_
        refine ww_iastore G ar_31 (by decide) d_M_stop_99 h (fun s99 h => ?_)
        refine ww_aload_n 1 G d_M_stop_100 rfl rfl ?_
        refine ww_getr G fs_M_13 (by decide) d_M_stop_101 ?_
        refine ww_iload 0 G d_M_stop_104 rfl ?_
        refine ww_iload_n 3 G d_M_stop_106 rfl rfl ?_
        refine ww_iastore G ar_32 (by decide) d_M_stop_107 h (fun s107 h => ?_)
        refine ww_aload_n 1 G d_M_stop_108 rfl rfl ?_
        refine ww_getr G fs_M_16 (by decide) d_M_stop_109 ?_
        refine ww_iload 0 G d_M_stop_112 rfl ?_
        refine ww_iload_n 4 G d_M_stop_114 rfl rfl ?_
        refine ww_iastore G ar_33 (by decide) d_M_stop_115 h (fun s115 h => ?_)
        refine ww_aload_n 1 G d_M_stop_116 rfl rfl ?_
        refine ww_getr G fs_M_19 (by decide) d_M_stop_117 ?_
        refine ww_bipush (v := (7 : Int32)) G d_M_stop_120 ib_7 ?_
        refine ww_dup2 G d_M_stop_122 rfl rfl ?_
        refine ww_iaload G ar_34 (by decide) d_M_stop_123 h (fun v123 h => ?_)
        refine ww_iconst (v := (1 : Int32)) G d_M_stop_124 ic_1 ?_
        refine ww_iadd G d_M_stop_125 ?_
        refine ww_iastore G ar_34 (by decide) d_M_stop_126 h (fun s126 h => ?_)
        refine ww_aload_n 1 G d_M_stop_127 rfl rfl ?_
        refine ww_getr G fs_M_19 (by decide) d_M_stop_128 ?_
        refine ww_bipush (v := (7 : Int32)) G d_M_stop_131 ib_7 ?_
        refine ww_iaload G ar_34 (by decide) d_M_stop_133 h (fun v133 h => ?_)
        exact ww_iret G E d_M_stop_134 h
      · skip
        refine ww_iconst (v := (0 : Int32)) G d_M_stop_77 ic_0 ?_
        exact ww_iret G E d_M_stop_78 h
    refine ww_ifne (tgt := 41) G d_M_stop_34 (by decide) h (fun h => ?_) (fun h => ?_)
    · skip
      refine ww_aload_n 1 G d_M_stop_41 rfl rfl ?_
      refine ww_iload_n 2 G d_M_stop_42 rfl rfl ?_
      refine ww_iload_n 4 G d_M_stop_43 rfl rfl ?_
      refine ww_cvI (As := [_, _]) G E cs_M_122 (by decide) (fun o q h => c_M_stopAt x1 x3 _ _ _ h) rfl rfl (Nat.le_of_ble_eq_true rfl) d_M_stop_44 (by decide) h (fun v44 s44 h => ?_)
      refine ww_ifge (tgt := 62) G d_M_stop_47 (by decide) h (fun h => ?_) (fun h => ?_)
      · skip
        refine ww_iconst (v := (2 : Int32)) G d_M_stop_62 ic_2 ?_
        refine ww_goto (tgt := 67) G d_M_stop_63 (by decide) ?_
        refine ww_sub [1, 2, 3, 4] rfl ?_
        exact J67 _ _ h
      · skip
        refine ww_aload_n 1 G d_M_stop_50 rfl rfl ?_
        refine ww_getr G fs_M_19 (by decide) d_M_stop_51 ?_
        refine ww_bipush (v := (7 : Int32)) G d_M_stop_54 ib_7 ?_
        refine ww_iaload G ar_34 (by decide) d_M_stop_56 h (fun v56 h => ?_)
        refine ww_bipush (v := (24 : Int32)) G d_M_stop_57 ib_24 ?_
        refine ww_icmpne (tgt := 66) G d_M_stop_59 (by decide) h (fun h => ?_) (fun h => ?_)
        · skip
          refine ww_iconst (v := (0 : Int32)) G d_M_stop_66 ic_0 ?_
          refine ww_sub [1, 2, 3, 4] rfl ?_
          exact J67 _ _ h
        · skip
          refine ww_iconst (v := (2 : Int32)) G d_M_stop_62 ic_2 ?_
          refine ww_goto (tgt := 67) G d_M_stop_63 (by decide) ?_
          refine ww_sub [1, 2, 3, 4] rfl ?_
          exact J67 _ _ h
    · skip
      refine ww_iconst (v := (1 : Int32)) G d_M_stop_37 ic_1 ?_
      refine ww_goto (tgt := 67) G d_M_stop_38 (by decide) ?_
      refine ww_sub [1, 2, 3, 4] rfl ?_
      exact J67 _ _ h
  refine ww_ifeq (tgt := 28) G d_M_stop_4 (by decide) h (fun h => ?_) (fun h => ?_)
  · skip
    refine ww_iconst (v := (0 : Int32)) G d_M_stop_28 ic_0 ?_
    exact J29 _ _ h
  · skip
    refine ww_iload_n 2 G d_M_stop_7 rfl rfl ?_
    refine ww_csI (As := [_]) G E cs_M_119 (fun o q h => c_M_isKiosk x2 _ _ _ h) rfl rfl (Nat.le_of_ble_eq_true rfl) d_M_stop_8 (by decide) h (fun v8 s8 h => ?_)
    refine ww_ifeq (tgt := 28) G d_M_stop_11 (by decide) h (fun h => ?_) (fun h => ?_)
    · skip
      refine ww_iconst (v := (0 : Int32)) G d_M_stop_28 ic_0 ?_
      exact J29 _ _ h
    · skip
      refine ww_iload_n 3 G d_M_stop_14 rfl rfl ?_
      refine ww_sipush (v := (10079 : Int32)) G d_M_stop_15 is_10079 ?_
      refine ww_csI (As := [_, _]) G E cs_M_108 (fun o q h => c_M_upTo x3 ((10079 : Int32)) _ _ _ h) rfl rfl (Nat.le_of_ble_eq_true rfl) d_M_stop_18 (by decide) h (fun v18 s18 h => ?_)
      refine ww_ifeq (tgt := 28) G d_M_stop_21 (by decide) h (fun h => ?_) (fun h => ?_)
      · skip
        refine ww_iconst (v := (0 : Int32)) G d_M_stop_28 ic_0 ?_
        exact J29 _ _ h
      · skip
        refine ww_iconst (v := (1 : Int32)) G d_M_stop_24 ic_1 ?_
        refine ww_goto (tgt := 29) G d_M_stop_25 (by decide) ?_
        exact J29 _ _ h
def f_M_cancel (x1 : Int32) (x2 : Int32) (s : Mem) : RR :=
  mm_pf s 30 0 31 ((0 : Int32)) fun s2 =>
  mm_cI (f_M_stopAt x1 x2 s2) fun v8 s8 =>
  if 0 ≤ v8 then (
    mm_ld s8 34 0 8 ((7 : Int32)) fun v25 =>
    mm_st s8 34 0 8 ((7 : Int32)) (v25 - ((1 : Int32))) fun s28 =>
    mm_ld s28 34 0 8 ((7 : Int32)) fun v39 =>
    mm_cV (f_M_copyStop (((168 : Int32)) + v39) v8 s28) fun s42 =>
    mm_rz ((1 : Int32)) s42
  ) else (
    mm_rz ((0 : Int32)) s8
  )
set_option maxRecDepth 100000 in
set_option maxHeartbeats 4000000 in
theorem c_M_cancel {l : Launch} {K : KK} (x1 : Int32) (x2 : Int32)  (s : Mem) (o : Oc) (q : Mem) (h : f_M_cancel x1 x2 s = some (o, q)) : Ct l K y_M_cancel b_M_cancel 4 (some .boolean) 1 23 [.ref (aa K 30 0), .int x1, .int x2] s o q := by
  refine Ct_of (own := "VillageMailModel") (L := [(0, _), (1, _), (2, _)]) (by decide +kernel) rfl (Nat.le_of_ble_eq_true rfl) rfl (fun Γ G E => ?_)
  unfold f_M_cancel at h
  refine ww_aload_n 0 G d_M_cancel_0 rfl rfl ?_
  refine ww_iconst (v := (0 : Int32)) G d_M_cancel_1 ic_0 ?_
  refine ww_putf G fs_M_104 (by decide) d_M_cancel_2 h (fun s2 h => ?_)
  refine ww_aload_n 0 G d_M_cancel_5 rfl rfl ?_
  refine ww_iload_n 1 G d_M_cancel_6 rfl rfl ?_
  refine ww_iload_n 2 G d_M_cancel_7 rfl rfl ?_
  refine ww_cvI (As := [_, _]) G E cs_M_122 (by decide) (fun o q h => c_M_stopAt x1 x2 _ _ _ h) rfl rfl (Nat.le_of_ble_eq_true rfl) d_M_cancel_8 (by decide) h (fun v8 s8 h => ?_)
  refine ww_istore_n (L' := [(3, _), (0, _), (1, _), (2, _)]) G d_M_cancel_11 rfl (by decide) rfl ?_
  refine ww_iload_n 0 G d_M_cancel_12 rfl rfl ?_
  refine ww_ifge (tgt := 18) G d_M_cancel_13 (by decide) h (fun h => ?_) (fun h => ?_)
  · skip
    refine ww_aload_n 1 G d_M_cancel_18 rfl rfl ?_
    refine ww_getr G fs_M_19 (by decide) d_M_cancel_19 ?_
    refine ww_bipush (v := (7 : Int32)) G d_M_cancel_22 ib_7 ?_
    refine ww_dup2 G d_M_cancel_24 rfl rfl ?_
    refine ww_iaload G ar_34 (by decide) d_M_cancel_25 h (fun v25 h => ?_)
    refine ww_iconst (v := (1 : Int32)) G d_M_cancel_26 ic_1 ?_
    refine ww_isub G d_M_cancel_27 ?_
    refine ww_iastore G ar_34 (by decide) d_M_cancel_28 h (fun s28 h => ?_)
    refine ww_aload_n 1 G d_M_cancel_29 rfl rfl ?_
    refine ww_sipush (v := (168 : Int32)) G d_M_cancel_30 is_168 ?_
    refine ww_aload_n 1 G d_M_cancel_33 rfl rfl ?_
    refine ww_getr G fs_M_19 (by decide) d_M_cancel_34 ?_
    refine ww_bipush (v := (7 : Int32)) G d_M_cancel_37 ib_7 ?_
    refine ww_iaload G ar_34 (by decide) d_M_cancel_39 h (fun v39 h => ?_)
    refine ww_iadd G d_M_cancel_40 ?_
    refine ww_iload_n 0 G d_M_cancel_41 rfl rfl ?_
    refine ww_cvV (As := [_, _]) G E cs_M_126 (by decide) (fun o q h => c_M_copyStop (((168 : Int32)) + v39) v8 _ _ _ h) rfl rfl (Nat.le_of_ble_eq_true rfl) d_M_cancel_42 (by decide) h (fun s42 h => ?_)
    refine ww_iconst (v := (1 : Int32)) G d_M_cancel_45 ic_1 ?_
    exact ww_zret G E d_M_cancel_46 h
  · skip
    refine ww_iconst (v := (0 : Int32)) G d_M_cancel_16 ic_0 ?_
    exact ww_zret G E d_M_cancel_17 h
def lp_M_publish_60  (k : Mem → RR) : Nat → Int32 → Mem → RR
  | 0, _, _ => none
  | n + 1, x1, s =>
    mm_ld s 34 0 8 ((7 : Int32)) fun v67 =>
    if v67 ≤ x1 then (
      k s
    ) else (
      mm_gf s 30 0 4 fun v80 =>
      mm_cV (f_M_copyStop (((168 : Int32)) + x1) ((((24 : Int32)) * v80) + x1) s) fun s86 =>
      lp_M_publish_60 k n (x1 + (1 : Int32)) s86
    )
set_option maxRecDepth 100000 in
set_option maxHeartbeats 4000000 in
theorem lp_M_publish_60_ok {K : KK} {Γ : Cx} {o : Oc} {q : Mem}   (k : Mem → RR) (G : Good K Γ b_M_publish "VillageMailModel" 2 1 22) (E : Ends K Γ (some .int) o q)
    (Kx : ∀  (s : Mem), k s = some (o, q) → WW K Γ 0 s 95 [(0, .ref (aa K 30 0))] []) :
    ∀ (n : Nat) (x1 : Int32) (s : Mem), lp_M_publish_60 k n x1 s = some (o, q) → WW K Γ 0 s 60 [(0, .ref (aa K 30 0)), (1, .int x1)] [] := by
  intro n
  induction n with
  | zero => intro _ _ h; exact nomatch h
  | succ n ih =>
    intro x1 s h
    unfold lp_M_publish_60 at h
    refine ww_iload_n 1 G d_M_publish_60 rfl rfl ?_
    refine ww_aload_n 0 G d_M_publish_61 rfl rfl ?_
    refine ww_getr G fs_M_19 (by decide) d_M_publish_62 ?_
    refine ww_bipush (v := (7 : Int32)) G d_M_publish_65 ib_7 ?_
    refine ww_iaload G ar_34 (by decide) d_M_publish_67 h (fun v67 h => ?_)
    refine ww_icmpge (tgt := 95) G d_M_publish_68 (by decide) h (fun h => ?_) (fun h => ?_)
    · skip
      refine ww_sub [0] rfl ?_
      exact Kx  _ h
    · skip
      refine ww_aload_n 0 G d_M_publish_71 rfl rfl ?_
      refine ww_sipush (v := (168 : Int32)) G d_M_publish_72 is_168 ?_
      refine ww_iload_n 1 G d_M_publish_75 rfl rfl ?_
      refine ww_iadd G d_M_publish_76 ?_
      refine ww_bipush (v := (24 : Int32)) G d_M_publish_77 ib_24 ?_
      refine ww_aload_n 0 G d_M_publish_79 rfl rfl ?_
      refine ww_getf G fs_M_130 (by decide) d_M_publish_80 h (fun v80 h => ?_)
      refine ww_imul G d_M_publish_83 ?_
      refine ww_iload_n 1 G d_M_publish_84 rfl rfl ?_
      refine ww_iadd G d_M_publish_85 ?_
      refine ww_cvV (As := [_, _]) G E cs_M_126 (by decide) (fun o q h => c_M_copyStop (((168 : Int32)) + x1) ((((24 : Int32)) * v80) + x1) _ _ _ h) rfl rfl (Nat.le_of_ble_eq_true rfl) d_M_publish_86 (by decide) h (fun s86 h => ?_)
      refine ww_iinc 1 (L' := [(1, _), (0, _)]) G d_M_publish_89 rfl ic_1 (by decide) rfl ?_
      refine ww_goto (tgt := 60) G d_M_publish_92 (by decide) ?_
      refine ww_sub [1, 0] rfl ?_
      exact ih _ _ h
def f_M_publish  (s : Mem) : RR :=
  mm_gf s 30 0 4 fun v2 =>
  mm_jn (fun (y15 : Int32) s15 =>
    mm_pf s15 30 0 31 y15 fun s15 =>
    mm_gf s15 30 0 31 fun v19 =>
    if v19 = 0 then (
      mm_gf s15 30 0 4 fun v34 =>
      mm_pf s15 30 0 4 (v34 + ((1 : Int32))) fun s39 =>
      mm_gf s39 30 0 4 fun v47 =>
      mm_ld s39 34 0 8 ((7 : Int32)) fun v56 =>
      mm_st s39 34 0 8 v47 v56 fun s57 =>
      mm_lp (fun kk => lp_M_publish_60 kk FU ((0 : Int32)) s57) fun s60 =>
      mm_gf s60 30 0 4 fun v101 =>
      mm_st s60 35 0 12 ((0 : Int32)) v101 fun s104 =>
      mm_gf s104 30 0 4 fun v106 =>
      mm_ri v106 s104
    ) else (
      mm_pf s15 30 0 31 ((1 : Int32)) fun s27 =>
      mm_ri ((0 : Int32)) s27
    )
  ) (fun r15 =>
  if ¬ v2 = ((6 : Int32)) then (
    r15 ((0 : Int32)) s
  ) else (
    r15 ((2 : Int32)) s
  ))
set_option maxRecDepth 100000 in
set_option maxHeartbeats 4000000 in
theorem c_M_publish {l : Launch} {K : KK}   (s : Mem) (o : Oc) (q : Mem) (h : f_M_publish s = some (o, q)) : Ct l K y_M_publish b_M_publish 2 (some .int) 1 22 [.ref (aa K 30 0)] s o q := by
  refine Ct_of (own := "VillageMailModel") (L := [(0, _)]) (by decide +kernel) rfl (Nat.le_of_ble_eq_true rfl) rfl (fun Γ G E => ?_)
  unfold f_M_publish at h
  refine ww_aload_n 0 G d_M_publish_0 rfl rfl ?_
  refine ww_aload_n 0 G d_M_publish_1 rfl rfl ?_
  refine ww_getf G fs_M_130 (by decide) d_M_publish_2 h (fun v2 h => ?_)
  refine ww_bipush (v := (6 : Int32)) G d_M_publish_5 ib_6 ?_
  refine ww_jn h (fun (y15 : Int32) (s15 : Mem) => WW K Γ 0 s15 15 [(0, .ref (aa K 30 0))] [.int y15, .ref (aa K 30 0)]) (fun y15 s15 h => ?_) (fun r15 J15 h => ?_)
  · skip
    refine ww_putf G fs_M_104 (by decide) d_M_publish_15 h (fun s15 h => ?_)
    refine ww_aload_n 0 G d_M_publish_18 rfl rfl ?_
    refine ww_getf G fs_M_104 (by decide) d_M_publish_19 h (fun v19 h => ?_)
    refine ww_ifeq (tgt := 32) G d_M_publish_22 (by decide) h (fun h => ?_) (fun h => ?_)
    · skip
      refine ww_aload_n 0 G d_M_publish_32 rfl rfl ?_
      refine ww_dup G d_M_publish_33 rfl ?_
      refine ww_getf G fs_M_130 (by decide) d_M_publish_34 h (fun v34 h => ?_)
      refine ww_iconst (v := (1 : Int32)) G d_M_publish_37 ic_1 ?_
      refine ww_iadd G d_M_publish_38 ?_
      refine ww_putf G fs_M_130 (by decide) d_M_publish_39 h (fun s39 h => ?_)
      refine ww_aload_n 0 G d_M_publish_42 rfl rfl ?_
      refine ww_getr G fs_M_19 (by decide) d_M_publish_43 ?_
      refine ww_aload_n 0 G d_M_publish_46 rfl rfl ?_
      refine ww_getf G fs_M_130 (by decide) d_M_publish_47 h (fun v47 h => ?_)
      refine ww_aload_n 0 G d_M_publish_50 rfl rfl ?_
      refine ww_getr G fs_M_19 (by decide) d_M_publish_51 ?_
      refine ww_bipush (v := (7 : Int32)) G d_M_publish_54 ib_7 ?_
      refine ww_iaload G ar_34 (by decide) d_M_publish_56 h (fun v56 h => ?_)
      refine ww_iastore G ar_34 (by decide) d_M_publish_57 h (fun s57 h => ?_)
      refine ww_iconst (v := (0 : Int32)) G d_M_publish_58 ic_0 ?_
      refine ww_istore_n (L' := [(1, _), (0, _)]) G d_M_publish_59 rfl (by decide) rfl ?_
      refine ww_sub [1, 0] rfl ?_
      refine lp_M_publish_60_ok _ G E (fun s60 h => ?_) FU _ _ h
      refine ww_aload_n 0 G d_M_publish_95 rfl rfl ?_
      refine ww_getr G fs_M_22 (by decide) d_M_publish_96 ?_
      refine ww_iconst (v := (0 : Int32)) G d_M_publish_99 ic_0 ?_
      refine ww_aload_n 0 G d_M_publish_100 rfl rfl ?_
      refine ww_getf G fs_M_130 (by decide) d_M_publish_101 h (fun v101 h => ?_)
      refine ww_iastore G ar_35 (by decide) d_M_publish_104 h (fun s104 h => ?_)
      refine ww_aload_n 0 G d_M_publish_105 rfl rfl ?_
      refine ww_getf G fs_M_130 (by decide) d_M_publish_106 h (fun v106 h => ?_)
      exact ww_iret G E d_M_publish_109 h
    · skip
      refine ww_aload_n 0 G d_M_publish_25 rfl rfl ?_
      refine ww_iconst (v := (1 : Int32)) G d_M_publish_26 ic_1 ?_
      refine ww_putf G fs_M_104 (by decide) d_M_publish_27 h (fun s27 h => ?_)
      refine ww_iconst (v := (0 : Int32)) G d_M_publish_30 ic_0 ?_
      exact ww_iret G E d_M_publish_31 h
  refine ww_icmpne (tgt := 14) G d_M_publish_7 (by decide) h (fun h => ?_) (fun h => ?_)
  · skip
    refine ww_iconst (v := (0 : Int32)) G d_M_publish_14 ic_0 ?_
    exact J15 _ _ h
  · skip
    refine ww_iconst (v := (2 : Int32)) G d_M_publish_10 ic_2 ?_
    refine ww_goto (tgt := 15) G d_M_publish_11 (by decide) ?_
    exact J15 _ _ h

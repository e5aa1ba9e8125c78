theorem hl_13 : Cond.classLink "VillageMailLaw" 13 (exn 1) ∈ wAll := wa_at (i := 287) (by decide +kernel) rfl
theorem hl_15 : Cond.classLink "VillageMailLaw" 15 (exn 2) ∈ wAll := wa_at (i := 288) (by decide +kernel) rfl
theorem hl_51 : Cond.classLink "VillageMailLaw" 51 (exn 4) ∈ wAll := wa_at (i := 624) (by decide +kernel) rfl
theorem hl_59 : Cond.classLink "VillageMailLaw" 59 (exn 3) ∈ wAll := wa_at (i := 657) (by decide +kernel) rfl
def f_W_stop (x1 : Int32) (x2 : Int32) (x3 : Int32) (s : Mem) : RR :=
  mm_xI (f_X_stop x1 x2 x3 s) (fun v7 s7 =>
    mm_stj s7 70 0 1 ((0 : Int32)) v7.toInt64 fun s11 =>
    mm_ri ((0 : Int32)) s11
  ) (mm_h2 1 2
    (fun s15 =>
      mm_ri ((1 : Int32)) s15
    )
    (fun s19 =>
      mm_ri ((2 : Int32)) s19
    )
  )
set_option maxRecDepth 100000 in
set_option maxHeartbeats 4000000 in
theorem c_W_stop {l : Launch} {K : KK} (x1 : Int32) (x2 : Int32) (x3 : Int32) (s : Mem) (r : Int32) (q : Mem) (h : f_W_stop x1 x2 x3 s = some (.inr (some (.int r)), q)) : Hc l K y_W_stop b_W_stop 6 8 132 [(0, 12, 15, 13), (0, 12, 19, 15)] [.ref (aa K 0 0), .int x1, .int x2, .int x3, .ref (aa K 70 0)] s r q := by
  refine Hc_of (own := "VillageMailLaw") (L := [(0, _), (1, _), (2, _), (3, _), (4, _)]) (by decide +kernel) rfl (Nat.le_of_ble_eq_true rfl) rfl (fun Γ G E => ?_)
  unfold f_W_stop at h
  refine ww_aload 4 G d_W_stop_0 rfl ?_
  refine ww_iconst (v := (0 : Int32)) G d_W_stop_2 ic_0 ?_
  refine ww_aload_n 0 G d_W_stop_3 rfl rfl ?_
  refine ww_iload_n 1 G d_W_stop_4 rfl rfl ?_
  refine ww_iload_n 2 G d_W_stop_5 rfl rfl ?_
  refine ww_iload_n 3 G d_W_stop_6 rfl rfl ?_
  refine ww_xvI2 (As := [_, _, _]) G E cs_W_7 (by decide) (fun o q h => c_X_stop x1 x2 x3 _ _ _ h) rfl rfl (Nat.le_of_ble_eq_true rfl) d_W_stop_7 (by decide) ⟨by decide, by simp [xs_nw, exn]⟩ hl_13 ⟨by decide, by simp [xs_nw, exn], rfl, by decide⟩ hl_15 h (fun v7 s7 h => ?_) (fun s15 x15 h => ?_) (fun s19 x19 h => ?_)
  · skip
    refine ww_i2l G d_W_stop_10 ?_
    refine ww_lastore G ar_70 (by decide) d_W_stop_11 h (fun s11 h => ?_)
    refine ww_goto (tgt := 23) G d_W_stop_12 (by decide) ?_
    refine ww_iconst (v := (0 : Int32)) G d_W_stop_23 ic_0 ?_
    exact ww_hret G E (by decide) d_W_stop_24 h
  · skip
    refine ww_astore (L' := [(5, _), (0, _), (1, _), (2, _), (3, _), (4, _)]) G d_W_stop_15 (by decide) rfl ?_
    refine ww_iconst (v := (1 : Int32)) G d_W_stop_17 ic_1 ?_
    exact ww_hret G E (by decide) d_W_stop_18 h
  · skip
    refine ww_astore (L' := [(5, _), (0, _), (1, _), (2, _), (3, _), (4, _)]) G d_W_stop_19 (by decide) rfl ?_
    refine ww_iconst (v := (2 : Int32)) G d_W_stop_21 ic_2 ?_
    exact ww_hret G E (by decide) d_W_stop_22 h
def f_W_publish  (s : Mem) : RR :=
  mm_xI (f_X_publish s) (fun v3 s3 =>
    mm_stj s3 70 0 1 ((0 : Int32)) v3.toInt64 fun s7 =>
    mm_ri ((0 : Int32)) s7
  ) (mm_h1 2
    (fun s11 =>
      mm_ri ((1 : Int32)) s11
    )
  )
set_option maxRecDepth 100000 in
set_option maxHeartbeats 4000000 in
theorem c_W_publish {l : Launch} {K : KK}  (s : Mem) (r : Int32) (q : Mem) (h : f_W_publish s = some (.inr (some (.int r)), q)) : Hc l K y_W_publish b_W_publish 3 7 109 [(0, 8, 11, 15)] [.ref (aa K 0 0), .ref (aa K 70 0)] s r q := by
  refine Hc_of (own := "VillageMailLaw") (L := [(0, _), (1, _)]) (by decide +kernel) rfl (Nat.le_of_ble_eq_true rfl) rfl (fun Γ G E => ?_)
  unfold f_W_publish at h
  refine ww_aload_n 1 G d_W_publish_0 rfl rfl ?_
  refine ww_iconst (v := (0 : Int32)) G d_W_publish_1 ic_0 ?_
  refine ww_aload_n 0 G d_W_publish_2 rfl rfl ?_
  refine ww_xvI1 (As := []) G E cs_W_17 (by decide) (fun o q h => c_X_publish _ _ _ h) rfl rfl (Nat.le_of_ble_eq_true rfl) d_W_publish_3 (by decide) ⟨by decide, by simp [xs_nw, exn]⟩ hl_15 h (fun v3 s3 h => ?_) (fun s11 x11 h => ?_)
  · skip
    refine ww_i2l G d_W_publish_6 ?_
    refine ww_lastore G ar_70 (by decide) d_W_publish_7 h (fun s7 h => ?_)
    refine ww_goto (tgt := 14) G d_W_publish_8 (by decide) ?_
    refine ww_iconst (v := (0 : Int32)) G d_W_publish_14 ic_0 ?_
    exact ww_hret G E (by decide) d_W_publish_15 h
  · skip
    refine ww_astore_n (L' := [(2, _), (0, _), (1, _)]) G d_W_publish_11 rfl (by decide) rfl ?_
    refine ww_iconst (v := (1 : Int32)) G d_W_publish_12 ic_1 ?_
    exact ww_hret G E (by decide) d_W_publish_13 h
def f_W_household (x1 : Int32) (x2 : Int32) (x3 : Int32) (s : Mem) : RR :=
  mm_xV (f_X_household x1 x2 x3 s) (fun s4 =>
    mm_ri ((0 : Int32)) s4
  ) (mm_h1 1
    (fun s10 =>
      mm_ri ((1 : Int32)) s10
    )
  )
set_option maxRecDepth 100000 in
set_option maxHeartbeats 4000000 in
theorem c_W_household {l : Launch} {K : KK} (x1 : Int32) (x2 : Int32) (x3 : Int32) (s : Mem) (r : Int32) (q : Mem) (h : f_W_household x1 x2 x3 s = some (.inr (some (.int r)), q)) : Hc l K y_W_household b_W_household 5 8 154 [(0, 7, 10, 13)] [.ref (aa K 0 0), .int x1, .int x2, .int x3] s r q := by
  refine Hc_of (own := "VillageMailLaw") (L := [(0, _), (1, _), (2, _), (3, _)]) (by decide +kernel) rfl (Nat.le_of_ble_eq_true rfl) rfl (fun Γ G E => ?_)
  unfold f_W_household at h
  refine ww_aload_n 0 G d_W_household_0 rfl rfl ?_
  refine ww_iload_n 1 G d_W_household_1 rfl rfl ?_
  refine ww_iload_n 2 G d_W_household_2 rfl rfl ?_
  refine ww_iload_n 3 G d_W_household_3 rfl rfl ?_
  refine ww_xvV1 (As := [_, _, _]) G E cs_W_21 (by decide) (fun o q h => c_X_household x1 x2 x3 _ _ _ h) rfl rfl (Nat.le_of_ble_eq_true rfl) d_W_household_4 (by decide) ⟨by decide, by simp [xs_nw, exn]⟩ hl_13 h (fun s4 h => ?_) (fun s10 x10 h => ?_)
  · skip
    refine ww_goto (tgt := 14) G d_W_household_7 (by decide) ?_
    refine ww_iconst (v := (0 : Int32)) G d_W_household_14 ic_0 ?_
    exact ww_hret G E (by decide) d_W_household_15 h
  · skip
    refine ww_astore (L' := [(4, _), (0, _), (1, _), (2, _), (3, _)]) G d_W_household_10 (by decide) rfl ?_
    refine ww_iconst (v := (1 : Int32)) G d_W_household_12 ic_1 ?_
    exact ww_hret G E (by decide) d_W_household_13 h
def f_W_group (x1 : Int32) (x2 : Int32) (x3 : Int32) (s : Mem) : RR :=
  mm_xI (f_X_group x1 x2 x3 s) (fun v7 s7 =>
    if v7 = 0 then (
      mm_stj s7 70 0 1 ((0 : Int32)) ((0 : Int64)) fun s18 =>
      mm_ri ((0 : Int32)) s18
    ) else (
      mm_stj s7 70 0 1 ((0 : Int32)) ((1 : Int64)) fun s18 =>
      mm_ri ((0 : Int32)) s18
    )
  ) (mm_h1 1
    (fun s22 =>
      mm_ri ((1 : Int32)) s22
    )
  )
set_option maxRecDepth 100000 in
set_option maxHeartbeats 4000000 in
theorem c_W_group {l : Launch} {K : KK} (x1 : Int32) (x2 : Int32) (x3 : Int32) (s : Mem) (r : Int32) (q : Mem) (h : f_W_group x1 x2 x3 s = some (.inr (some (.int r)), q)) : Hc l K y_W_group b_W_group 6 8 155 [(0, 19, 22, 13)] [.ref (aa K 0 0), .int x1, .int x2, .int x3, .ref (aa K 70 0)] s r q := by
  refine Hc_of (own := "VillageMailLaw") (L := [(0, _), (1, _), (2, _), (3, _), (4, _)]) (by decide +kernel) rfl (Nat.le_of_ble_eq_true rfl) rfl (fun Γ G E => ?_)
  unfold f_W_group at h
  refine ww_aload 4 G d_W_group_0 rfl ?_
  refine ww_iconst (v := (0 : Int32)) G d_W_group_2 ic_0 ?_
  refine ww_aload_n 0 G d_W_group_3 rfl rfl ?_
  refine ww_iload_n 1 G d_W_group_4 rfl rfl ?_
  refine ww_iload_n 2 G d_W_group_5 rfl rfl ?_
  refine ww_iload_n 3 G d_W_group_6 rfl rfl ?_
  refine ww_xvI1 (As := [_, _, _]) G E cs_W_25 (by decide) (fun o q h => c_X_group x1 x2 x3 _ _ _ h) rfl rfl (Nat.le_of_ble_eq_true rfl) d_W_group_7 (by decide) ⟨by decide, by simp [xs_nw, exn]⟩ hl_13 h (fun v7 s7 h => ?_) (fun s22 x22 h => ?_)
  · skip
    refine ww_ifeq (tgt := 17) G d_W_group_10 (by decide) h (fun h => ?_) (fun h => ?_)
    · skip
      refine ww_lconst (v := (0 : Int64)) G d_W_group_17 lc_0 ?_
      refine ww_lastore G ar_70 (by decide) d_W_group_18 h (fun s18 h => ?_)
      refine ww_goto (tgt := 26) G d_W_group_19 (by decide) ?_
      refine ww_iconst (v := (0 : Int32)) G d_W_group_26 ic_0 ?_
      exact ww_hret G E (by decide) d_W_group_27 h
    · skip
      refine ww_lconst (v := (1 : Int64)) G d_W_group_13 lc_1 ?_
      refine ww_goto (tgt := 18) G d_W_group_14 (by decide) ?_
      refine ww_lastore G ar_70 (by decide) d_W_group_18 h (fun s18 h => ?_)
      refine ww_goto (tgt := 26) G d_W_group_19 (by decide) ?_
      refine ww_iconst (v := (0 : Int32)) G d_W_group_26 ic_0 ?_
      exact ww_hret G E (by decide) d_W_group_27 h
  · skip
    refine ww_astore (L' := [(5, _), (0, _), (1, _), (2, _), (3, _), (4, _)]) G d_W_group_22 (by decide) rfl ?_
    refine ww_iconst (v := (1 : Int32)) G d_W_group_24 ic_1 ?_
    exact ww_hret G E (by decide) d_W_group_25 h
def f_W_post (x1 : Int32) (x2 : Int32) (x3 : Int32) (x4 : Int32) (s : Mem) : RR :=
  mm_xI (f_X_post x1 x2 x3 x4 s) (fun v9 s9 =>
    mm_stj s9 70 0 1 ((0 : Int32)) v9.toInt64 fun s13 =>
    mm_ri ((0 : Int32)) s13
  ) (mm_h2 1 2
    (fun s17 =>
      mm_ri ((1 : Int32)) s17
    )
    (fun s21 =>
      mm_ri ((2 : Int32)) s21
    )
  )
set_option maxRecDepth 100000 in
set_option maxHeartbeats 4000000 in
theorem c_W_post {l : Launch} {K : KK} (x1 : Int32) (x2 : Int32) (x3 : Int32) (x4 : Int32) (s : Mem) (r : Int32) (q : Mem) (h : f_W_post x1 x2 x3 x4 s = some (.inr (some (.int r)), q)) : Hc l K y_W_post b_W_post 7 8 135 [(0, 14, 17, 13), (0, 14, 21, 15)] [.ref (aa K 0 0), .int x1, .int x2, .int x3, .int x4, .ref (aa K 70 0)] s r q := by
  refine Hc_of (own := "VillageMailLaw") (L := [(0, _), (1, _), (2, _), (3, _), (4, _), (5, _)]) (by decide +kernel) rfl (Nat.le_of_ble_eq_true rfl) rfl (fun Γ G E => ?_)
  unfold f_W_post at h
  refine ww_aload 5 G d_W_post_0 rfl ?_
  refine ww_iconst (v := (0 : Int32)) G d_W_post_2 ic_0 ?_
  refine ww_aload_n 0 G d_W_post_3 rfl rfl ?_
  refine ww_iload_n 1 G d_W_post_4 rfl rfl ?_
  refine ww_iload_n 2 G d_W_post_5 rfl rfl ?_
  refine ww_iload_n 3 G d_W_post_6 rfl rfl ?_
  refine ww_iload 4 G d_W_post_7 rfl ?_
  refine ww_xvI2 (As := [_, _, _, _]) G E cs_W_29 (by decide) (fun o q h => c_X_post x1 x2 x3 x4 _ _ _ h) rfl rfl (Nat.le_of_ble_eq_true rfl) d_W_post_9 (by decide) ⟨by decide, by simp [xs_nw, exn]⟩ hl_13 ⟨by decide, by simp [xs_nw, exn], rfl, by decide⟩ hl_15 h (fun v9 s9 h => ?_) (fun s17 x17 h => ?_) (fun s21 x21 h => ?_)
  · skip
    refine ww_i2l G d_W_post_12 ?_
    refine ww_lastore G ar_70 (by decide) d_W_post_13 h (fun s13 h => ?_)
    refine ww_goto (tgt := 25) G d_W_post_14 (by decide) ?_
    refine ww_iconst (v := (0 : Int32)) G d_W_post_25 ic_0 ?_
    exact ww_hret G E (by decide) d_W_post_26 h
  · skip
    refine ww_astore (L' := [(6, _), (0, _), (1, _), (2, _), (3, _), (4, _), (5, _)]) G d_W_post_17 (by decide) rfl ?_
    refine ww_iconst (v := (1 : Int32)) G d_W_post_19 ic_1 ?_
    exact ww_hret G E (by decide) d_W_post_20 h
  · skip
    refine ww_astore (L' := [(6, _), (0, _), (1, _), (2, _), (3, _), (4, _), (5, _)]) G d_W_post_21 (by decide) rfl ?_
    refine ww_iconst (v := (2 : Int32)) G d_W_post_23 ic_2 ?_
    exact ww_hret G E (by decide) d_W_post_24 h
def f_W_minute (x1 : Int32) (s : Mem) : RR :=
  mm_xI (f_X_minute x1 s) (fun v4 s4 =>
    mm_stj s4 70 0 1 ((0 : Int32)) v4.toInt64 fun s8 =>
    mm_ri ((0 : Int32)) s8
  ) (mm_h1 1
    (fun s12 =>
      mm_ri ((1 : Int32)) s12
    )
  )
set_option maxRecDepth 100000 in
set_option maxHeartbeats 4000000 in
theorem c_W_minute {l : Launch} {K : KK} (x1 : Int32) (s : Mem) (r : Int32) (q : Mem) (h : f_W_minute x1 s = some (.inr (some (.int r)), q)) : Hc l K y_W_minute b_W_minute 4 8 131 [(0, 9, 12, 13)] [.ref (aa K 0 0), .int x1, .ref (aa K 70 0)] s r q := by
  refine Hc_of (own := "VillageMailLaw") (L := [(0, _), (1, _), (2, _)]) (by decide +kernel) rfl (Nat.le_of_ble_eq_true rfl) rfl (fun Γ G E => ?_)
  unfold f_W_minute at h
  refine ww_aload_n 2 G d_W_minute_0 rfl rfl ?_
  refine ww_iconst (v := (0 : Int32)) G d_W_minute_1 ic_0 ?_
  refine ww_aload_n 0 G d_W_minute_2 rfl rfl ?_
  refine ww_iload_n 1 G d_W_minute_3 rfl rfl ?_
  refine ww_xvI1 (As := [_]) G E cs_W_33 (by decide) (fun o q h => c_X_minute x1 _ _ _ h) rfl rfl (Nat.le_of_ble_eq_true rfl) d_W_minute_4 (by decide) ⟨by decide, by simp [xs_nw, exn]⟩ hl_13 h (fun v4 s4 h => ?_) (fun s12 x12 h => ?_)
  · skip
    refine ww_i2l G d_W_minute_7 ?_
    refine ww_lastore G ar_70 (by decide) d_W_minute_8 h (fun s8 h => ?_)
    refine ww_goto (tgt := 15) G d_W_minute_9 (by decide) ?_
    refine ww_iconst (v := (0 : Int32)) G d_W_minute_15 ic_0 ?_
    exact ww_hret G E (by decide) d_W_minute_16 h
  · skip
    refine ww_astore_n (L' := [(3, _), (0, _), (1, _), (2, _)]) G d_W_minute_12 rfl (by decide) rfl ?_
    refine ww_iconst (v := (1 : Int32)) G d_W_minute_13 ic_1 ?_
    exact ww_hret G E (by decide) d_W_minute_14 h
def f_W_meet (x1 : Int32) (x2 : Int32) (x3 : Int32) (s : Mem) : RR :=
  mm_xI (f_X_meet x1 x2 x3 s) (fun v7 s7 =>
    mm_stj s7 70 0 1 ((0 : Int32)) v7.toInt64 fun s11 =>
    mm_ri ((0 : Int32)) s11
  ) (mm_h1 1
    (fun s15 =>
      mm_ri ((1 : Int32)) s15
    )
  )
set_option maxRecDepth 100000 in
set_option maxHeartbeats 4000000 in
theorem c_W_meet {l : Launch} {K : KK} (x1 : Int32) (x2 : Int32) (x3 : Int32) (s : Mem) (r : Int32) (q : Mem) (h : f_W_meet x1 x2 x3 s = some (.inr (some (.int r)), q)) : Hc l K y_W_meet b_W_meet 6 8 183 [(0, 12, 15, 13)] [.ref (aa K 0 0), .int x1, .int x2, .int x3, .ref (aa K 70 0)] s r q := by
  refine Hc_of (own := "VillageMailLaw") (L := [(0, _), (1, _), (2, _), (3, _), (4, _)]) (by decide +kernel) rfl (Nat.le_of_ble_eq_true rfl) rfl (fun Γ G E => ?_)
  unfold f_W_meet at h
  refine ww_aload 4 G d_W_meet_0 rfl ?_
  refine ww_iconst (v := (0 : Int32)) G d_W_meet_2 ic_0 ?_
  refine ww_aload_n 0 G d_W_meet_3 rfl rfl ?_
  refine ww_iload_n 1 G d_W_meet_4 rfl rfl ?_
  refine ww_iload_n 2 G d_W_meet_5 rfl rfl ?_
  refine ww_iload_n 3 G d_W_meet_6 rfl rfl ?_
  refine ww_xvI1 (As := [_, _, _]) G E cs_W_37 (by decide) (fun o q h => c_X_meet x1 x2 x3 _ _ _ h) rfl rfl (Nat.le_of_ble_eq_true rfl) d_W_meet_7 (by decide) ⟨by decide, by simp [xs_nw, exn]⟩ hl_13 h (fun v7 s7 h => ?_) (fun s15 x15 h => ?_)
  · skip
    refine ww_i2l G d_W_meet_10 ?_
    refine ww_lastore G ar_70 (by decide) d_W_meet_11 h (fun s11 h => ?_)
    refine ww_goto (tgt := 19) G d_W_meet_12 (by decide) ?_
    refine ww_iconst (v := (0 : Int32)) G d_W_meet_19 ic_0 ?_
    exact ww_hret G E (by decide) d_W_meet_20 h
  · skip
    refine ww_astore (L' := [(5, _), (0, _), (1, _), (2, _), (3, _), (4, _)]) G d_W_meet_15 (by decide) rfl ?_
    refine ww_iconst (v := (1 : Int32)) G d_W_meet_17 ic_1 ?_
    exact ww_hret G E (by decide) d_W_meet_18 h
def f_W_breakOff (x1 : Int32) (x2 : Int32) (x3 : Int32) (s : Mem) : RR :=
  mm_xI (f_X_breakOff x1 x2 x3 s) (fun v7 s7 =>
    mm_stj s7 70 0 1 ((0 : Int32)) v7.toInt64 fun s11 =>
    mm_ri ((0 : Int32)) s11
  ) (mm_h1 1
    (fun s15 =>
      mm_ri ((1 : Int32)) s15
    )
  )
set_option maxRecDepth 100000 in
set_option maxHeartbeats 4000000 in
theorem c_W_breakOff {l : Launch} {K : KK} (x1 : Int32) (x2 : Int32) (x3 : Int32) (s : Mem) (r : Int32) (q : Mem) (h : f_W_breakOff x1 x2 x3 s = some (.inr (some (.int r)), q)) : Hc l K y_W_breakOff b_W_breakOff 6 8 184 [(0, 12, 15, 13)] [.ref (aa K 0 0), .int x1, .int x2, .int x3, .ref (aa K 70 0)] s r q := by
  refine Hc_of (own := "VillageMailLaw") (L := [(0, _), (1, _), (2, _), (3, _), (4, _)]) (by decide +kernel) rfl (Nat.le_of_ble_eq_true rfl) rfl (fun Γ G E => ?_)
  unfold f_W_breakOff at h
  refine ww_aload 4 G d_W_breakOff_0 rfl ?_
  refine ww_iconst (v := (0 : Int32)) G d_W_breakOff_2 ic_0 ?_
  refine ww_aload_n 0 G d_W_breakOff_3 rfl rfl ?_
  refine ww_iload_n 1 G d_W_breakOff_4 rfl rfl ?_
  refine ww_iload_n 2 G d_W_breakOff_5 rfl rfl ?_
  refine ww_iload_n 3 G d_W_breakOff_6 rfl rfl ?_
  refine ww_xvI1 (As := [_, _, _]) G E cs_W_40 (by decide) (fun o q h => c_X_breakOff x1 x2 x3 _ _ _ h) rfl rfl (Nat.le_of_ble_eq_true rfl) d_W_breakOff_7 (by decide) ⟨by decide, by simp [xs_nw, exn]⟩ hl_13 h (fun v7 s7 h => ?_) (fun s15 x15 h => ?_)
  · skip
    refine ww_i2l G d_W_breakOff_10 ?_
    refine ww_lastore G ar_70 (by decide) d_W_breakOff_11 h (fun s11 h => ?_)
    refine ww_goto (tgt := 19) G d_W_breakOff_12 (by decide) ?_
    refine ww_iconst (v := (0 : Int32)) G d_W_breakOff_19 ic_0 ?_
    exact ww_hret G E (by decide) d_W_breakOff_20 h
  · skip
    refine ww_astore (L' := [(5, _), (0, _), (1, _), (2, _), (3, _), (4, _)]) G d_W_breakOff_15 (by decide) rfl ?_
    refine ww_iconst (v := (1 : Int32)) G d_W_breakOff_17 ic_1 ?_
    exact ww_hret G E (by decide) d_W_breakOff_18 h
def f_W_reboot (x1 : Int32) (s : Mem) : RR :=
  mm_xV (f_X_reboot x1 s) (fun s2 =>
    mm_ri ((0 : Int32)) s2
  ) (mm_h1 1
    (fun s8 =>
      mm_ri ((1 : Int32)) s8
    )
  )
set_option maxRecDepth 100000 in
set_option maxHeartbeats 4000000 in
theorem c_W_reboot {l : Launch} {K : KK} (x1 : Int32) (s : Mem) (r : Int32) (q : Mem) (h : f_W_reboot x1 s = some (.inr (some (.int r)), q)) : Hc l K y_W_reboot b_W_reboot 3 8 132 [(0, 5, 8, 13)] [.ref (aa K 0 0), .int x1] s r q := by
  refine Hc_of (own := "VillageMailLaw") (L := [(0, _), (1, _)]) (by decide +kernel) rfl (Nat.le_of_ble_eq_true rfl) rfl (fun Γ G E => ?_)
  unfold f_W_reboot at h
  refine ww_aload_n 0 G d_W_reboot_0 rfl rfl ?_
  refine ww_iload_n 1 G d_W_reboot_1 rfl rfl ?_
  refine ww_xvV1 (As := [_]) G E cs_W_43 (by decide) (fun o q h => c_X_reboot x1 _ _ _ h) rfl rfl (Nat.le_of_ble_eq_true rfl) d_W_reboot_2 (by decide) ⟨by decide, by simp [xs_nw, exn]⟩ hl_13 h (fun s2 h => ?_) (fun s8 x8 h => ?_)
  · skip
    refine ww_goto (tgt := 11) G d_W_reboot_5 (by decide) ?_
    refine ww_iconst (v := (0 : Int32)) G d_W_reboot_11 ic_0 ?_
    exact ww_hret G E (by decide) d_W_reboot_12 h
  · skip
    refine ww_astore_n (L' := [(2, _), (0, _), (1, _)]) G d_W_reboot_8 rfl (by decide) rfl ?_
    refine ww_iconst (v := (1 : Int32)) G d_W_reboot_9 ic_1 ?_
    exact ww_hret G E (by decide) d_W_reboot_10 h
def f_W_spoil (x1 : Int32) (x2 : Int32) (x3 : Int32) (x4 : Int32) (x5 : Int32) (s : Mem) : RR :=
  mm_xI (f_X_spoil x1 x2 x3 x4 x5 s) (fun v11 s11 =>
    mm_stj s11 70 0 1 ((0 : Int32)) v11.toInt64 fun s15 =>
    mm_ri ((0 : Int32)) s15
  ) (mm_h2 1 4
    (fun s19 =>
      mm_ri ((1 : Int32)) s19
    )
    (fun s23 =>
      mm_ri ((2 : Int32)) s23
    )
  )
set_option maxRecDepth 100000 in
set_option maxHeartbeats 4000000 in
theorem c_W_spoil {l : Launch} {K : KK} (x1 : Int32) (x2 : Int32) (x3 : Int32) (x4 : Int32) (x5 : Int32) (s : Mem) (r : Int32) (q : Mem) (h : f_W_spoil x1 x2 x3 x4 x5 s = some (.inr (some (.int r)), q)) : Hc l K y_W_spoil b_W_spoil 8 8 137 [(0, 16, 19, 13), (0, 16, 23, 51)] [.ref (aa K 0 0), .int x1, .int x2, .int x3, .int x4, .int x5, .ref (aa K 70 0)] s r q := by
  refine Hc_of (own := "VillageMailLaw") (L := [(0, _), (1, _), (2, _), (3, _), (4, _), (5, _), (6, _)]) (by decide +kernel) rfl (Nat.le_of_ble_eq_true rfl) rfl (fun Γ G E => ?_)
  unfold f_W_spoil at h
  refine ww_aload 6 G d_W_spoil_0 rfl ?_
  refine ww_iconst (v := (0 : Int32)) G d_W_spoil_2 ic_0 ?_
  refine ww_aload_n 0 G d_W_spoil_3 rfl rfl ?_
  refine ww_iload_n 1 G d_W_spoil_4 rfl rfl ?_
  refine ww_iload_n 2 G d_W_spoil_5 rfl rfl ?_
  refine ww_iload_n 3 G d_W_spoil_6 rfl rfl ?_
  refine ww_iload 4 G d_W_spoil_7 rfl ?_
  refine ww_iload 5 G d_W_spoil_9 rfl ?_
  refine ww_xvI2 (As := [_, _, _, _, _]) G E cs_W_47 (by decide) (fun o q h => c_X_spoil x1 x2 x3 x4 x5 _ _ _ h) rfl rfl (Nat.le_of_ble_eq_true rfl) d_W_spoil_11 (by decide) ⟨by decide, by simp [xs_nw, exn]⟩ hl_13 ⟨by decide, by simp [xs_nw, exn], rfl, by decide⟩ hl_51 h (fun v11 s11 h => ?_) (fun s19 x19 h => ?_) (fun s23 x23 h => ?_)
  · skip
    refine ww_i2l G d_W_spoil_14 ?_
    refine ww_lastore G ar_70 (by decide) d_W_spoil_15 h (fun s15 h => ?_)
    refine ww_goto (tgt := 27) G d_W_spoil_16 (by decide) ?_
    refine ww_iconst (v := (0 : Int32)) G d_W_spoil_27 ic_0 ?_
    exact ww_hret G E (by decide) d_W_spoil_28 h
  · skip
    refine ww_astore (L' := [(7, _), (0, _), (1, _), (2, _), (3, _), (4, _), (5, _), (6, _)]) G d_W_spoil_19 (by decide) rfl ?_
    refine ww_iconst (v := (1 : Int32)) G d_W_spoil_21 ic_1 ?_
    exact ww_hret G E (by decide) d_W_spoil_22 h
  · skip
    refine ww_astore (L' := [(7, _), (0, _), (1, _), (2, _), (3, _), (4, _), (5, _), (6, _)]) G d_W_spoil_23 (by decide) rfl ?_
    refine ww_iconst (v := (2 : Int32)) G d_W_spoil_25 ic_2 ?_
    exact ww_hret G E (by decide) d_W_spoil_26 h
def f_W_box (x1 : Int32) (x2 : Int32) (x3 : Int32) (s : Mem) : RR :=
  mm_xI (f_X_box x1 x2 x3 s) (fun v7 s7 =>
    mm_stj s7 70 0 1 ((0 : Int32)) v7.toInt64 fun s11 =>
    mm_ri ((0 : Int32)) s11
  ) (mm_h1 1
    (fun s15 =>
      mm_ri ((1 : Int32)) s15
    )
  )
set_option maxRecDepth 100000 in
set_option maxHeartbeats 4000000 in
theorem c_W_box {l : Launch} {K : KK} (x1 : Int32) (x2 : Int32) (x3 : Int32) (s : Mem) (r : Int32) (q : Mem) (h : f_W_box x1 x2 x3 s = some (.inr (some (.int r)), q)) : Hc l K y_W_box b_W_box 6 8 133 [(0, 12, 15, 13)] [.ref (aa K 0 0), .int x1, .int x2, .int x3, .ref (aa K 70 0)] s r q := by
  refine Hc_of (own := "VillageMailLaw") (L := [(0, _), (1, _), (2, _), (3, _), (4, _)]) (by decide +kernel) rfl (Nat.le_of_ble_eq_true rfl) rfl (fun Γ G E => ?_)
  unfold f_W_box at h
  refine ww_aload 4 G d_W_box_0 rfl ?_
  refine ww_iconst (v := (0 : Int32)) G d_W_box_2 ic_0 ?_
  refine ww_aload_n 0 G d_W_box_3 rfl rfl ?_
  refine ww_iload_n 1 G d_W_box_4 rfl rfl ?_
  refine ww_iload_n 2 G d_W_box_5 rfl rfl ?_
  refine ww_iload_n 3 G d_W_box_6 rfl rfl ?_
  refine ww_xvI1 (As := [_, _, _]) G E cs_W_53 (by decide) (fun o q h => c_X_box x1 x2 x3 _ _ _ h) rfl rfl (Nat.le_of_ble_eq_true rfl) d_W_box_7 (by decide) ⟨by decide, by simp [xs_nw, exn]⟩ hl_13 h (fun v7 s7 h => ?_) (fun s15 x15 h => ?_)
  · skip
    refine ww_i2l G d_W_box_10 ?_
    refine ww_lastore G ar_70 (by decide) d_W_box_11 h (fun s11 h => ?_)
    refine ww_goto (tgt := 19) G d_W_box_12 (by decide) ?_
    refine ww_iconst (v := (0 : Int32)) G d_W_box_19 ic_0 ?_
    exact ww_hret G E (by decide) d_W_box_20 h
  · skip
    refine ww_astore (L' := [(5, _), (0, _), (1, _), (2, _), (3, _), (4, _)]) G d_W_box_15 (by decide) rfl ?_
    refine ww_iconst (v := (1 : Int32)) G d_W_box_17 ic_1 ?_
    exact ww_hret G E (by decide) d_W_box_18 h
def f_W_read (x1 : Int32) (x2 : Int32) (x3 : Int32) (x4 : Int32) (s : Mem) : RR :=
  mm_xI (f_X_read x1 x2 x3 x4 s) (fun v9 s9 =>
    mm_stj s9 70 0 1 ((0 : Int32)) v9.toInt64 fun s13 =>
    mm_ri ((0 : Int32)) s13
  ) (mm_h2 1 3
    (fun s17 =>
      mm_ri ((1 : Int32)) s17
    )
    (fun s21 =>
      mm_ri ((2 : Int32)) s21
    )
  )
set_option maxRecDepth 100000 in
set_option maxHeartbeats 4000000 in
theorem c_W_read {l : Launch} {K : KK} (x1 : Int32) (x2 : Int32) (x3 : Int32) (x4 : Int32) (s : Mem) (r : Int32) (q : Mem) (h : f_W_read x1 x2 x3 x4 s = some (.inr (some (.int r)), q)) : Hc l K y_W_read b_W_read 7 8 136 [(0, 14, 17, 13), (0, 14, 21, 59)] [.ref (aa K 0 0), .int x1, .int x2, .int x3, .int x4, .ref (aa K 70 0)] s r q := by
  refine Hc_of (own := "VillageMailLaw") (L := [(0, _), (1, _), (2, _), (3, _), (4, _), (5, _)]) (by decide +kernel) rfl (Nat.le_of_ble_eq_true rfl) rfl (fun Γ G E => ?_)
  unfold f_W_read at h
  refine ww_aload 5 G d_W_read_0 rfl ?_
  refine ww_iconst (v := (0 : Int32)) G d_W_read_2 ic_0 ?_
  refine ww_aload_n 0 G d_W_read_3 rfl rfl ?_
  refine ww_iload_n 1 G d_W_read_4 rfl rfl ?_
  refine ww_iload_n 2 G d_W_read_5 rfl rfl ?_
  refine ww_iload_n 3 G d_W_read_6 rfl rfl ?_
  refine ww_iload 4 G d_W_read_7 rfl ?_
  refine ww_xvI2 (As := [_, _, _, _]) G E cs_W_56 (by decide) (fun o q h => c_X_read x1 x2 x3 x4 _ _ _ h) rfl rfl (Nat.le_of_ble_eq_true rfl) d_W_read_9 (by decide) ⟨by decide, by simp [xs_nw, exn]⟩ hl_13 ⟨by decide, by simp [xs_nw, exn], rfl, by decide⟩ hl_59 h (fun v9 s9 h => ?_) (fun s17 x17 h => ?_) (fun s21 x21 h => ?_)
  · skip
    refine ww_i2l G d_W_read_12 ?_
    refine ww_lastore G ar_70 (by decide) d_W_read_13 h (fun s13 h => ?_)
    refine ww_goto (tgt := 25) G d_W_read_14 (by decide) ?_
    refine ww_iconst (v := (0 : Int32)) G d_W_read_25 ic_0 ?_
    exact ww_hret G E (by decide) d_W_read_26 h
  · skip
    refine ww_astore (L' := [(6, _), (0, _), (1, _), (2, _), (3, _), (4, _), (5, _)]) G d_W_read_17 (by decide) rfl ?_
    refine ww_iconst (v := (1 : Int32)) G d_W_read_19 ic_1 ?_
    exact ww_hret G E (by decide) d_W_read_20 h
  · skip
    refine ww_astore (L' := [(6, _), (0, _), (1, _), (2, _), (3, _), (4, _), (5, _)]) G d_W_read_21 (by decide) rfl ?_
    refine ww_iconst (v := (2 : Int32)) G d_W_read_23 ic_2 ?_
    exact ww_hret G E (by decide) d_W_read_24 h
def f_W_remove (x1 : Int32) (x2 : Int32) (x3 : Int32) (s : Mem) : RR :=
  mm_xI (f_X_remove x1 x2 x3 s) (fun v7 s7 =>
    mm_stj s7 70 0 1 ((0 : Int32)) v7.toInt64 fun s11 =>
    mm_ri ((0 : Int32)) s11
  ) (mm_h2 1 3
    (fun s15 =>
      mm_ri ((1 : Int32)) s15
    )
    (fun s19 =>
      mm_ri ((2 : Int32)) s19
    )
  )
set_option maxRecDepth 100000 in
set_option maxHeartbeats 4000000 in
theorem c_W_remove {l : Launch} {K : KK} (x1 : Int32) (x2 : Int32) (x3 : Int32) (s : Mem) (r : Int32) (q : Mem) (h : f_W_remove x1 x2 x3 s = some (.inr (some (.int r)), q)) : Hc l K y_W_remove b_W_remove 6 8 156 [(0, 12, 15, 13), (0, 12, 19, 59)] [.ref (aa K 0 0), .int x1, .int x2, .int x3, .ref (aa K 70 0)] s r q := by
  refine Hc_of (own := "VillageMailLaw") (L := [(0, _), (1, _), (2, _), (3, _), (4, _)]) (by decide +kernel) rfl (Nat.le_of_ble_eq_true rfl) rfl (fun Γ G E => ?_)
  unfold f_W_remove at h
  refine ww_aload 4 G d_W_remove_0 rfl ?_
  refine ww_iconst (v := (0 : Int32)) G d_W_remove_2 ic_0 ?_
  refine ww_aload_n 0 G d_W_remove_3 rfl rfl ?_
  refine ww_iload_n 1 G d_W_remove_4 rfl rfl ?_
  refine ww_iload_n 2 G d_W_remove_5 rfl rfl ?_
  refine ww_iload_n 3 G d_W_remove_6 rfl rfl ?_
  refine ww_xvI2 (As := [_, _, _]) G E cs_W_61 (by decide) (fun o q h => c_X_remove x1 x2 x3 _ _ _ h) rfl rfl (Nat.le_of_ble_eq_true rfl) d_W_remove_7 (by decide) ⟨by decide, by simp [xs_nw, exn]⟩ hl_13 ⟨by decide, by simp [xs_nw, exn], rfl, by decide⟩ hl_59 h (fun v7 s7 h => ?_) (fun s15 x15 h => ?_) (fun s19 x19 h => ?_)
  · skip
    refine ww_i2l G d_W_remove_10 ?_
    refine ww_lastore G ar_70 (by decide) d_W_remove_11 h (fun s11 h => ?_)
    refine ww_goto (tgt := 23) G d_W_remove_12 (by decide) ?_
    refine ww_iconst (v := (0 : Int32)) G d_W_remove_23 ic_0 ?_
    exact ww_hret G E (by decide) d_W_remove_24 h
  · skip
    refine ww_astore (L' := [(5, _), (0, _), (1, _), (2, _), (3, _), (4, _)]) G d_W_remove_15 (by decide) rfl ?_
    refine ww_iconst (v := (1 : Int32)) G d_W_remove_17 ic_1 ?_
    exact ww_hret G E (by decide) d_W_remove_18 h
  · skip
    refine ww_astore (L' := [(5, _), (0, _), (1, _), (2, _), (3, _), (4, _)]) G d_W_remove_19 (by decide) rfl ?_
    refine ww_iconst (v := (2 : Int32)) G d_W_remove_21 ic_2 ?_
    exact ww_hret G E (by decide) d_W_remove_22 h
def f_W_status (x1 : Int32) (s : Mem) : RR :=
  mm_xI (f_X_status x1 s) (fun v4 s4 =>
    mm_stj s4 70 0 1 ((0 : Int32)) v4.toInt64 fun s8 =>
    mm_ri ((0 : Int32)) s8
  ) (mm_h1 1
    (fun s12 =>
      mm_ri ((1 : Int32)) s12
    )
  )
set_option maxRecDepth 100000 in
set_option maxHeartbeats 4000000 in
theorem c_W_status {l : Launch} {K : KK} (x1 : Int32) (s : Mem) (r : Int32) (q : Mem) (h : f_W_status x1 s = some (.inr (some (.int r)), q)) : Hc l K y_W_status b_W_status 4 8 131 [(0, 9, 12, 13)] [.ref (aa K 0 0), .int x1, .ref (aa K 70 0)] s r q := by
  refine Hc_of (own := "VillageMailLaw") (L := [(0, _), (1, _), (2, _)]) (by decide +kernel) rfl (Nat.le_of_ble_eq_true rfl) rfl (fun Γ G E => ?_)
  unfold f_W_status at h
  refine ww_aload_n 2 G d_W_status_0 rfl rfl ?_
  refine ww_iconst (v := (0 : Int32)) G d_W_status_1 ic_0 ?_
  refine ww_aload_n 0 G d_W_status_2 rfl rfl ?_
  refine ww_iload_n 1 G d_W_status_3 rfl rfl ?_
  refine ww_xvI1 (As := [_]) G E cs_W_64 (by decide) (fun o q h => c_X_status x1 _ _ _ h) rfl rfl (Nat.le_of_ble_eq_true rfl) d_W_status_4 (by decide) ⟨by decide, by simp [xs_nw, exn]⟩ hl_13 h (fun v4 s4 h => ?_) (fun s12 x12 h => ?_)
  · skip
    refine ww_i2l G d_W_status_7 ?_
    refine ww_lastore G ar_70 (by decide) d_W_status_8 h (fun s8 h => ?_)
    refine ww_goto (tgt := 15) G d_W_status_9 (by decide) ?_
    refine ww_iconst (v := (0 : Int32)) G d_W_status_15 ic_0 ?_
    exact ww_hret G E (by decide) d_W_status_16 h
  · skip
    refine ww_astore_n (L' := [(3, _), (0, _), (1, _), (2, _)]) G d_W_status_12 rfl (by decide) rfl ?_
    refine ww_iconst (v := (1 : Int32)) G d_W_status_13 ic_1 ?_
    exact ww_hret G E (by decide) d_W_status_14 h
def f_W_custodians (x1 : Int32) (s : Mem) : RR :=
  mm_xI (f_X_custodians x1 s) (fun v4 s4 =>
    mm_stj s4 70 0 1 ((0 : Int32)) v4.toInt64 fun s8 =>
    mm_ri ((0 : Int32)) s8
  ) (mm_h1 1
    (fun s12 =>
      mm_ri ((1 : Int32)) s12
    )
  )
set_option maxRecDepth 100000 in
set_option maxHeartbeats 4000000 in
theorem c_W_custodians {l : Launch} {K : KK} (x1 : Int32) (s : Mem) (r : Int32) (q : Mem) (h : f_W_custodians x1 s = some (.inr (some (.int r)), q)) : Hc l K y_W_custodians b_W_custodians 4 8 132 [(0, 9, 12, 13)] [.ref (aa K 0 0), .int x1, .ref (aa K 70 0)] s r q := by
  refine Hc_of (own := "VillageMailLaw") (L := [(0, _), (1, _), (2, _)]) (by decide +kernel) rfl (Nat.le_of_ble_eq_true rfl) rfl (fun Γ G E => ?_)
  unfold f_W_custodians at h
  refine ww_aload_n 2 G d_W_custodians_0 rfl rfl ?_
  refine ww_iconst (v := (0 : Int32)) G d_W_custodians_1 ic_0 ?_
  refine ww_aload_n 0 G d_W_custodians_2 rfl rfl ?_
  refine ww_iload_n 1 G d_W_custodians_3 rfl rfl ?_
  refine ww_xvI1 (As := [_]) G E cs_W_67 (by decide) (fun o q h => c_X_custodians x1 _ _ _ h) rfl rfl (Nat.le_of_ble_eq_true rfl) d_W_custodians_4 (by decide) ⟨by decide, by simp [xs_nw, exn]⟩ hl_13 h (fun v4 s4 h => ?_) (fun s12 x12 h => ?_)
  · skip
    refine ww_i2l G d_W_custodians_7 ?_
    refine ww_lastore G ar_70 (by decide) d_W_custodians_8 h (fun s8 h => ?_)
    refine ww_goto (tgt := 15) G d_W_custodians_9 (by decide) ?_
    refine ww_iconst (v := (0 : Int32)) G d_W_custodians_15 ic_0 ?_
    exact ww_hret G E (by decide) d_W_custodians_16 h
  · skip
    refine ww_astore_n (L' := [(3, _), (0, _), (1, _), (2, _)]) G d_W_custodians_12 rfl (by decide) rfl ?_
    refine ww_iconst (v := (1 : Int32)) G d_W_custodians_13 ic_1 ?_
    exact ww_hret G E (by decide) d_W_custodians_14 h
def f_W_promise (x1 : Int32) (s : Mem) : RR :=
  mm_xI (f_X_promise x1 s) (fun v4 s4 =>
    mm_stj s4 70 0 1 ((0 : Int32)) v4.toInt64 fun s8 =>
    mm_ri ((0 : Int32)) s8
  ) (mm_h1 1
    (fun s12 =>
      mm_ri ((1 : Int32)) s12
    )
  )
set_option maxRecDepth 100000 in
set_option maxHeartbeats 4000000 in
theorem c_W_promise {l : Launch} {K : KK} (x1 : Int32) (s : Mem) (r : Int32) (q : Mem) (h : f_W_promise x1 s = some (.inr (some (.int r)), q)) : Hc l K y_W_promise b_W_promise 4 8 130 [(0, 9, 12, 13)] [.ref (aa K 0 0), .int x1, .ref (aa K 70 0)] s r q := by
  refine Hc_of (own := "VillageMailLaw") (L := [(0, _), (1, _), (2, _)]) (by decide +kernel) rfl (Nat.le_of_ble_eq_true rfl) rfl (fun Γ G E => ?_)
  unfold f_W_promise at h
  refine ww_aload_n 2 G d_W_promise_0 rfl rfl ?_
  refine ww_iconst (v := (0 : Int32)) G d_W_promise_1 ic_0 ?_
  refine ww_aload_n 0 G d_W_promise_2 rfl rfl ?_
  refine ww_iload_n 1 G d_W_promise_3 rfl rfl ?_
  refine ww_xvI1 (As := [_]) G E cs_W_70 (by decide) (fun o q h => c_X_promise x1 _ _ _ h) rfl rfl (Nat.le_of_ble_eq_true rfl) d_W_promise_4 (by decide) ⟨by decide, by simp [xs_nw, exn]⟩ hl_13 h (fun v4 s4 h => ?_) (fun s12 x12 h => ?_)
  · skip
    refine ww_i2l G d_W_promise_7 ?_
    refine ww_lastore G ar_70 (by decide) d_W_promise_8 h (fun s8 h => ?_)
    refine ww_goto (tgt := 15) G d_W_promise_9 (by decide) ?_
    refine ww_iconst (v := (0 : Int32)) G d_W_promise_15 ic_0 ?_
    exact ww_hret G E (by decide) d_W_promise_16 h
  · skip
    refine ww_astore_n (L' := [(3, _), (0, _), (1, _), (2, _)]) G d_W_promise_12 rfl (by decide) rfl ?_
    refine ww_iconst (v := (1 : Int32)) G d_W_promise_13 ic_1 ?_
    exact ww_hret G E (by decide) d_W_promise_14 h
def f_W_best (x1 : Int32) (x2 : Int32) (x3 : Int32) (s : Mem) : RR :=
  mm_xI (f_X_best x1 x2 x3 s) (fun v7 s7 =>
    mm_stj s7 70 0 1 ((0 : Int32)) v7.toInt64 fun s11 =>
    mm_ri ((0 : Int32)) s11
  ) (mm_h1 1
    (fun s15 =>
      mm_ri ((1 : Int32)) s15
    )
  )
set_option maxRecDepth 100000 in
set_option maxHeartbeats 4000000 in
theorem c_W_best {l : Launch} {K : KK} (x1 : Int32) (x2 : Int32) (x3 : Int32) (s : Mem) (r : Int32) (q : Mem) (h : f_W_best x1 x2 x3 s = some (.inr (some (.int r)), q)) : Hc l K y_W_best b_W_best 6 8 132 [(0, 12, 15, 13)] [.ref (aa K 0 0), .int x1, .int x2, .int x3, .ref (aa K 70 0)] s r q := by
  refine Hc_of (own := "VillageMailLaw") (L := [(0, _), (1, _), (2, _), (3, _), (4, _)]) (by decide +kernel) rfl (Nat.le_of_ble_eq_true rfl) rfl (fun Γ G E => ?_)
  unfold f_W_best at h
  refine ww_aload 4 G d_W_best_0 rfl ?_
  refine ww_iconst (v := (0 : Int32)) G d_W_best_2 ic_0 ?_
  refine ww_aload_n 0 G d_W_best_3 rfl rfl ?_
  refine ww_iload_n 1 G d_W_best_4 rfl rfl ?_
  refine ww_iload_n 2 G d_W_best_5 rfl rfl ?_
  refine ww_iload_n 3 G d_W_best_6 rfl rfl ?_
  refine ww_xvI1 (As := [_, _, _]) G E cs_W_73 (by decide) (fun o q h => c_X_best x1 x2 x3 _ _ _ h) rfl rfl (Nat.le_of_ble_eq_true rfl) d_W_best_7 (by decide) ⟨by decide, by simp [xs_nw, exn]⟩ hl_13 h (fun v7 s7 h => ?_) (fun s15 x15 h => ?_)
  · skip
    refine ww_i2l G d_W_best_10 ?_
    refine ww_lastore G ar_70 (by decide) d_W_best_11 h (fun s11 h => ?_)
    refine ww_goto (tgt := 19) G d_W_best_12 (by decide) ?_
    refine ww_iconst (v := (0 : Int32)) G d_W_best_19 ic_0 ?_
    exact ww_hret G E (by decide) d_W_best_20 h
  · skip
    refine ww_astore (L' := [(5, _), (0, _), (1, _), (2, _), (3, _), (4, _)]) G d_W_best_15 (by decide) rfl ?_
    refine ww_iconst (v := (1 : Int32)) G d_W_best_17 ic_1 ?_
    exact ww_hret G E (by decide) d_W_best_18 h
def f_W_store (x1 : Int32) (x2 : Int32) (s : Mem) : RR :=
  mm_xI (f_X_store x1 x2 s) (fun v5 s5 =>
    mm_stj s5 70 0 1 ((0 : Int32)) v5.toInt64 fun s9 =>
    mm_ri ((0 : Int32)) s9
  ) (mm_h1 1
    (fun s13 =>
      mm_ri ((1 : Int32)) s13
    )
  )
set_option maxRecDepth 100000 in
set_option maxHeartbeats 4000000 in
theorem c_W_store {l : Launch} {K : KK} (x1 : Int32) (x2 : Int32) (s : Mem) (r : Int32) (q : Mem) (h : f_W_store x1 x2 s = some (.inr (some (.int r)), q)) : Hc l K y_W_store b_W_store 5 8 132 [(0, 10, 13, 13)] [.ref (aa K 0 0), .int x1, .int x2, .ref (aa K 70 0)] s r q := by
  refine Hc_of (own := "VillageMailLaw") (L := [(0, _), (1, _), (2, _), (3, _)]) (by decide +kernel) rfl (Nat.le_of_ble_eq_true rfl) rfl (fun Γ G E => ?_)
  unfold f_W_store at h
  refine ww_aload_n 3 G d_W_store_0 rfl rfl ?_
  refine ww_iconst (v := (0 : Int32)) G d_W_store_1 ic_0 ?_
  refine ww_aload_n 0 G d_W_store_2 rfl rfl ?_
  refine ww_iload_n 1 G d_W_store_3 rfl rfl ?_
  refine ww_iload_n 2 G d_W_store_4 rfl rfl ?_
  refine ww_xvI1 (As := [_, _]) G E cs_W_76 (by decide) (fun o q h => c_X_store x1 x2 _ _ _ h) rfl rfl (Nat.le_of_ble_eq_true rfl) d_W_store_5 (by decide) ⟨by decide, by simp [xs_nw, exn]⟩ hl_13 h (fun v5 s5 h => ?_) (fun s13 x13 h => ?_)
  · skip
    refine ww_i2l G d_W_store_8 ?_
    refine ww_lastore G ar_70 (by decide) d_W_store_9 h (fun s9 h => ?_)
    refine ww_goto (tgt := 17) G d_W_store_10 (by decide) ?_
    refine ww_iconst (v := (0 : Int32)) G d_W_store_17 ic_0 ?_
    exact ww_hret G E (by decide) d_W_store_18 h
  · skip
    refine ww_astore (L' := [(4, _), (0, _), (1, _), (2, _), (3, _)]) G d_W_store_13 (by decide) rfl ?_
    refine ww_iconst (v := (1 : Int32)) G d_W_store_15 ic_1 ?_
    exact ww_hret G E (by decide) d_W_store_16 h

def lp_M_room_19 (x1 : Int32) (k : Int32 → Mem → RR) : Nat → Int32 → Int32 → Mem → RR
  | 0, _, _, _ => none
  | n + 1, x2, x3, s =>
    if ((((64 : Int32)) * x1) + ((64 : Int32))) ≤ x3 then (
      k x2 s
    ) else (
      mm_ld s 46 0 768 x3 fun v35 =>
      if v35 = 0 then (
        lp_M_room_19 x1 k n x2 (x3 + (1 : Int32)) s
      ) else (
        lp_M_room_19 x1 k n (x2 + (-1 : Int32)) (x3 + (1 : Int32)) s
      )
    )
set_option maxRecDepth 100000 in
set_option maxHeartbeats 4000000 in
theorem lp_M_room_19_ok {K : KK} {Γ : Cx} {o : Oc} {q : Mem} (x1 : Int32)  (k : Int32 → Mem → RR) (G : Good K Γ b_M_room "VillageMailModel" 4 0 0) (E : Ends K Γ (some .int) o q)
    (Kx : ∀ (x2 : Int32) (s : Mem), k x2 s = some (o, q) → WW K Γ 0 s 48 [(2, .int x2)] []) :
    ∀ (n : Nat) (x2 : Int32) (x3 : Int32) (s : Mem), lp_M_room_19 x1 k n x2 x3 s = some (o, q) → WW K Γ 0 s 19 [(0, .ref (aa K 30 0)), (1, .int x1), (2, .int x2), (3, .int x3)] [] := by
  intro n
  induction n with
  | zero => intro _ _ _ h; exact nomatch h
  | succ n ih =>
    intro x2 x3 s h
    unfold lp_M_room_19 at h
    refine ww_iload_n 3 G d_M_room_19 rfl rfl ?_
    refine ww_bipush (v := (64 : Int32)) G d_M_room_20 ib_64 ?_
    refine ww_iload_n 1 G d_M_room_22 rfl rfl ?_
    refine ww_imul G d_M_room_23 ?_
    refine ww_bipush (v := (64 : Int32)) G d_M_room_24 ib_64 ?_
    refine ww_iadd G d_M_room_26 ?_
    refine ww_icmpge (tgt := 48) G d_M_room_27 (by decide) h (fun h => ?_) (fun h => ?_)
    · skip
      refine ww_sub [2] rfl ?_
      exact Kx _ _ h
    · skip
      refine ww_aload_n 0 G d_M_room_30 rfl rfl ?_
      refine ww_getr G fs_M_56 (by decide) d_M_room_31 ?_
      refine ww_iload_n 3 G d_M_room_34 rfl rfl ?_
      refine ww_baload G ar_46 (by decide) d_M_room_35 h (fun v35 h => ?_)
      refine ww_ifeq (tgt := 42) G d_M_room_36 (by decide) h (fun h => ?_) (fun h => ?_)
      · skip
        refine ww_iinc 3 (L' := [(3, _), (0, _), (1, _), (2, _)]) G d_M_room_42 rfl ic_1 (by decide) rfl ?_
        refine ww_goto (tgt := 19) G d_M_room_45 (by decide) ?_
        refine ww_sub [1, 2, 3, 0] rfl ?_
        exact ih _ _ _ h
      · skip
        refine ww_iinc 2 (L' := [(2, _), (0, _), (1, _), (3, _)]) G d_M_room_39 rfl ic_m1 (by decide) rfl ?_
        refine ww_iinc 3 (L' := [(3, _), (2, _), (0, _), (1, _)]) G d_M_room_42 rfl ic_1 (by decide) rfl ?_
        refine ww_goto (tgt := 19) G d_M_room_45 (by decide) ?_
        refine ww_sub [2, 3, 1, 0] rfl ?_
        exact ih _ _ _ h
def f_M_room (x1 : Int32) (s : Mem) : RR :=
  mm_jn (fun (y13 : Int32) s13 =>
    mm_lp (fun kk => lp_M_room_19 x1 kk FU y13 (((64 : Int32)) * x1) s13) fun x2_19 s19 =>
    mm_ri x2_19 s19
  ) (fun r13 =>
  if ((8 : Int32)) ≤ x1 then (
    r13 ((10 : Int32)) s
  ) else (
    r13 ((24 : Int32)) s
  ))
set_option maxRecDepth 100000 in
set_option maxHeartbeats 4000000 in
theorem c_M_room {l : Launch} {K : KK} (x1 : Int32)  (s : Mem) (o : Oc) (q : Mem) (h : f_M_room x1 s = some (o, q)) : Ct l K y_M_room b_M_room 4 (some .int) 0 0 [.ref (aa K 30 0), .int x1] s o q := by
  refine Ct_of (own := "VillageMailModel") (L := [(0, _), (1, _)]) (by decide +kernel) rfl (Nat.le_of_ble_eq_true rfl) rfl (fun Γ G E => ?_)
  unfold f_M_room at h
  refine ww_iload_n 1 G d_M_room_0 rfl rfl ?_
  refine ww_bipush (v := (8 : Int32)) G d_M_room_1 ib_8 ?_
  refine ww_jn h (fun (y13 : Int32) (s13 : Mem) => WW K Γ 0 s13 13 [(0, .ref (aa K 30 0)), (1, .int x1)] [.int y13]) (fun y13 s13 h => ?_) (fun r13 J13 h => ?_)
  · skip
    refine ww_istore_n (L' := [(2, _), (0, _), (1, _)]) G d_M_room_13 rfl (by decide) rfl ?_
    refine ww_bipush (v := (64 : Int32)) G d_M_room_14 ib_64 ?_
    refine ww_iload_n 2 G d_M_room_16 rfl rfl ?_
    refine ww_imul G d_M_room_17 ?_
    refine ww_istore_n (L' := [(3, _), (2, _), (0, _), (1, _)]) G d_M_room_18 rfl (by decide) rfl ?_
    refine ww_sub [2, 3, 1, 0] rfl ?_
    refine lp_M_room_19_ok x1 _ G E (fun x2_19 s19 h => ?_) FU _ _ _ h
    refine ww_iload_n 0 G d_M_room_48 rfl rfl ?_
    exact ww_iret G E d_M_room_49 h
  refine ww_icmpge (tgt := 11) G d_M_room_3 (by decide) h (fun h => ?_) (fun h => ?_)
  · skip
    refine ww_bipush (v := (10 : Int32)) G d_M_room_11 ib_10 ?_
    exact J13 _ _ h
  · skip
    refine ww_bipush (v := (24 : Int32)) G d_M_room_6 ib_24 ?_
    refine ww_goto (tgt := 13) G d_M_room_8 (by decide) ?_
    exact J13 _ _ h
def f_M_hear (x1 : Int32) (x2 : Int32) (s : Mem) : RR :=
  mm_st s 48 0 768 x1 x2 fun s6 =>
  mm_ld s6 46 0 768 x1 fun v12 =>
  if v12 = 0 then (
    mm_rv s6
  ) else (
    mm_ld s6 47 0 768 x1 fun v22 =>
    if x2 ≤ v22 then (
      mm_rv s6
    ) else (
      mm_sz s6 46 0 768 x1 ((0 : Int32)) fun s32 =>
      mm_rv s32
    )
  )
set_option maxRecDepth 100000 in
set_option maxHeartbeats 4000000 in
theorem c_M_hear {l : Launch} {K : KK} (x1 : Int32) (x2 : Int32)  (s : Mem) (o : Oc) (q : Mem) (h : f_M_hear x1 x2 s = some (o, q)) : Ct l K y_M_hear b_M_hear 3 none 0 0 [.ref (aa K 30 0), .int x1, .int x2] s o q := by
  refine Ct_of (own := "VillageMailModel") (L := [(0, _), (1, _), (2, _)]) (by decide +kernel) rfl (Nat.le_of_ble_eq_true rfl) rfl (fun Γ G E => ?_)
  unfold f_M_hear at h
  refine ww_aload_n 0 G d_M_hear_0 rfl rfl ?_
  refine ww_getr G fs_M_62 (by decide) d_M_hear_1 ?_
  refine ww_iload_n 1 G d_M_hear_4 rfl rfl ?_
  refine ww_iload_n 2 G d_M_hear_5 rfl rfl ?_
  refine ww_iastore G ar_48 (by decide) d_M_hear_6 h (fun s6 h => ?_)
  refine ww_aload_n 0 G d_M_hear_7 rfl rfl ?_
  refine ww_getr G fs_M_56 (by decide) d_M_hear_8 ?_
  refine ww_iload_n 1 G d_M_hear_11 rfl rfl ?_
  refine ww_baload G ar_46 (by decide) d_M_hear_12 h (fun v12 h => ?_)
  refine ww_ifeq (tgt := 33) G d_M_hear_13 (by decide) h (fun h => ?_) (fun h => ?_)
  · skip
    exact ww_vret G E d_M_hear_33 h
  · skip
    refine ww_iload_n 2 G d_M_hear_16 rfl rfl ?_
    refine ww_aload_n 0 G d_M_hear_17 rfl rfl ?_
    refine ww_getr G fs_M_59 (by decide) d_M_hear_18 ?_
    refine ww_iload_n 1 G d_M_hear_21 rfl rfl ?_
    refine ww_iaload G ar_47 (by decide) d_M_hear_22 h (fun v22 h => ?_)
    refine ww_icmple (tgt := 33) G d_M_hear_23 (by decide) h (fun h => ?_) (fun h => ?_)
    · skip
      exact ww_vret G E d_M_hear_33 h
    · skip
      refine ww_aload_n 0 G d_M_hear_26 rfl rfl ?_
      refine ww_getr G fs_M_56 (by decide) d_M_hear_27 ?_
      refine ww_iload_n 1 G d_M_hear_30 rfl rfl ?_
      refine ww_iconst (v := (0 : Int32)) G d_M_hear_31 ic_0 ?_
      refine ww_bastore G ar_46 (by decide) d_M_hear_32 h (fun s32 h => ?_)
      exact ww_vret G E d_M_hear_33 h
def lp_M_learn_19 (x1 : Int32) (x2 : Int32) (k : Mem → RR) : Nat → Int32 → Mem → RR
  | 0, _, _ => none
  | n + 1, x4, s =>
    if ((4 : Int32)) ≤ x4 then (
      k s
    ) else (
      mm_cI (f_M_at x1 x2 x4 s) fun v33 s33 =>
      mm_sz s33 46 0 768 v33 ((0 : Int32)) fun s37 =>
      lp_M_learn_19 x1 x2 k n (x4 + (1 : Int32)) s37
    )
set_option maxRecDepth 100000 in
set_option maxHeartbeats 4000000 in
theorem lp_M_learn_19_ok {K : KK} {Γ : Cx} {o : Oc} {q : Mem} (x1 : Int32) (x2 : Int32)  (k : Mem → RR) (G : Good K Γ b_M_learn "VillageMailModel" 5 1 22) (E : Ends K Γ none o q)
    (Kx : ∀  (s : Mem), k s = some (o, q) → WW K Γ 0 s 44 [] []) :
    ∀ (n : Nat) (x4 : Int32) (s : Mem), lp_M_learn_19 x1 x2 k n x4 s = some (o, q) → WW K Γ 0 s 19 [(0, .ref (aa K 30 0)), (1, .int x1), (2, .int x2), (4, .int x4)] [] := by
  intro n
  induction n with
  | zero => intro _ _ h; exact nomatch h
  | succ n ih =>
    intro x4 s h
    unfold lp_M_learn_19 at h
    refine ww_iload 3 G d_M_learn_19 rfl ?_
    refine ww_iconst (v := (4 : Int32)) G d_M_learn_21 ic_4 ?_
    refine ww_icmpge (tgt := 44) G d_M_learn_22 (by decide) h (fun h => ?_) (fun h => ?_)
    · skip
      refine ww_sub [] rfl ?_
      exact Kx  _ h
    · skip
      refine ww_aload_n 0 G d_M_learn_25 rfl rfl ?_
      refine ww_getr G fs_M_56 (by decide) d_M_learn_26 ?_
      refine ww_iload_n 1 G d_M_learn_29 rfl rfl ?_
      refine ww_iload_n 2 G d_M_learn_30 rfl rfl ?_
      refine ww_iload 3 G d_M_learn_31 rfl ?_
      refine ww_csI (As := [_, _, _]) G E cs_M_146 (fun o q h => c_M_at x1 x2 x4 _ _ _ h) rfl rfl (Nat.le_of_ble_eq_true rfl) d_M_learn_33 (by decide) h (fun v33 s33 h => ?_)
      refine ww_iconst (v := (0 : Int32)) G d_M_learn_36 ic_0 ?_
      refine ww_bastore G ar_46 (by decide) d_M_learn_37 h (fun s37 h => ?_)
      refine ww_iinc 3 (L' := [(4, _), (0, _), (1, _), (2, _)]) G d_M_learn_38 rfl ic_1 (by decide) rfl ?_
      refine ww_goto (tgt := 19) G d_M_learn_41 (by decide) ?_
      refine ww_sub [1, 2, 3, 0] rfl ?_
      exact ih _ _ h
def f_M_learn (x1 : Int32) (x2 : Int32) (x3 : Int32) (s : Mem) : RR :=
  mm_st s 50 0 192 ((((16 : Int32)) * x1) + x2) x3 fun s11 =>
  if x3 = 0 then (
    mm_rv s11
  ) else (
    mm_lp (fun kk => lp_M_learn_19 x1 x2 kk FU ((0 : Int32)) s11) fun s19 =>
    mm_rv s19
  )
set_option maxRecDepth 100000 in
set_option maxHeartbeats 4000000 in
theorem c_M_learn {l : Launch} {K : KK} (x1 : Int32) (x2 : Int32) (x3 : Int32)  (s : Mem) (o : Oc) (q : Mem) (h : f_M_learn x1 x2 x3 s = some (o, q)) : Ct l K y_M_learn b_M_learn 5 none 1 22 [.ref (aa K 30 0), .int x1, .int x2, .int x3] s o q := by
  refine Ct_of (own := "VillageMailModel") (L := [(0, _), (1, _), (2, _), (3, _)]) (by decide +kernel) rfl (Nat.le_of_ble_eq_true rfl) rfl (fun Γ G E => ?_)
  unfold f_M_learn at h
  refine ww_aload_n 0 G d_M_learn_0 rfl rfl ?_
  refine ww_getr G fs_M_68 (by decide) d_M_learn_1 ?_
  refine ww_bipush (v := (16 : Int32)) G d_M_learn_4 ib_16 ?_
  refine ww_iload_n 1 G d_M_learn_6 rfl rfl ?_
  refine ww_imul G d_M_learn_7 ?_
  refine ww_iload_n 2 G d_M_learn_8 rfl rfl ?_
  refine ww_iadd G d_M_learn_9 ?_
  refine ww_iload_n 3 G d_M_learn_10 rfl rfl ?_
  refine ww_iastore G ar_50 (by decide) d_M_learn_11 h (fun s11 h => ?_)
  refine ww_iload_n 3 G d_M_learn_12 rfl rfl ?_
  refine ww_ifeq (tgt := 44) G d_M_learn_13 (by decide) h (fun h => ?_) (fun h => ?_)
  · skip
    exact ww_vret G E d_M_learn_44 h
  · skip
    refine ww_iconst (v := (0 : Int32)) G d_M_learn_16 ic_0 ?_
    refine ww_istore (L' := [(4, _), (0, _), (1, _), (2, _), (3, _)]) G d_M_learn_17 (by decide) rfl ?_
    refine ww_sub [1, 2, 3, 0] rfl ?_
    refine lp_M_learn_19_ok x1 x2 _ G E (fun s19 h => ?_) FU _ _ h
    exact ww_vret G E d_M_learn_44 h
def lp_M_bytesIn_4 (x1 : Int32) (k : Int32 → Mem → RR) : Nat → Int32 → Int32 → Mem → RR
  | 0, _, _, _ => none
  | n + 1, x2, x3, s =>
    mm_ld s 54 0 24 x1 fun v10 =>
    if v10 ≤ x3 then (
      k x2 s
    ) else (
      mm_ld s 55 0 384 ((((16 : Int32)) * x1) + x3) fun v29 =>
      mm_ld s 36 0 16 v29 fun v30 =>
      lp_M_bytesIn_4 x1 k n (x2 + v30) (x3 + (1 : Int32)) s
    )
set_option maxRecDepth 100000 in
set_option maxHeartbeats 4000000 in
theorem lp_M_bytesIn_4_ok {K : KK} {Γ : Cx} {o : Oc} {q : Mem} (x1 : Int32)  (k : Int32 → Mem → RR) (G : Good K Γ b_M_bytesIn "VillageMailModel" 4 0 0) (E : Ends K Γ (some .int) o q)
    (Kx : ∀ (x2 : Int32) (s : Mem), k x2 s = some (o, q) → WW K Γ 0 s 39 [(2, .int x2)] []) :
    ∀ (n : Nat) (x2 : Int32) (x3 : Int32) (s : Mem), lp_M_bytesIn_4 x1 k n x2 x3 s = some (o, q) → WW K Γ 0 s 4 [(0, .ref (aa K 30 0)), (1, .int x1), (2, .int x2), (3, .int x3)] [] := by
  intro n
  induction n with
  | zero => intro _ _ _ h; exact nomatch h
  | succ n ih =>
    intro x2 x3 s h
    unfold lp_M_bytesIn_4 at h
    refine ww_iload_n 3 G d_M_bytesIn_4 rfl rfl ?_
    refine ww_aload_n 0 G d_M_bytesIn_5 rfl rfl ?_
    refine ww_getr G fs_M_80 (by decide) d_M_bytesIn_6 ?_
    refine ww_iload_n 1 G d_M_bytesIn_9 rfl rfl ?_
    refine ww_iaload G ar_54 (by decide) d_M_bytesIn_10 h (fun v10 h => ?_)
    refine ww_icmpge (tgt := 39) G d_M_bytesIn_11 (by decide) h (fun h => ?_) (fun h => ?_)
    · skip
      refine ww_sub [2] rfl ?_
      exact Kx _ _ h
    · skip
      refine ww_iload_n 2 G d_M_bytesIn_14 rfl rfl ?_
      refine ww_aload_n 0 G d_M_bytesIn_15 rfl rfl ?_
      refine ww_getr G fs_M_25 (by decide) d_M_bytesIn_16 ?_
      refine ww_aload_n 0 G d_M_bytesIn_19 rfl rfl ?_
      refine ww_getr G fs_M_83 (by decide) d_M_bytesIn_20 ?_
      refine ww_bipush (v := (16 : Int32)) G d_M_bytesIn_23 ib_16 ?_
      refine ww_iload_n 1 G d_M_bytesIn_25 rfl rfl ?_
      refine ww_imul G d_M_bytesIn_26 ?_
      refine ww_iload_n 3 G d_M_bytesIn_27 rfl rfl ?_
      refine ww_iadd G d_M_bytesIn_28 ?_
      refine ww_iaload G ar_55 (by decide) d_M_bytesIn_29 h (fun v29 h => ?_)
      refine ww_iaload G ar_36 (by decide) d_M_bytesIn_30 h (fun v30 h => ?_)
      refine ww_iadd G d_M_bytesIn_31 ?_
      refine ww_istore_n (L' := [(2, _), (0, _), (1, _), (3, _)]) G d_M_bytesIn_32 rfl (by decide) rfl ?_
      refine ww_iinc 3 (L' := [(3, _), (2, _), (0, _), (1, _)]) G d_M_bytesIn_33 rfl ic_1 (by decide) rfl ?_
      refine ww_goto (tgt := 4) G d_M_bytesIn_36 (by decide) ?_
      refine ww_sub [2, 3, 1, 0] rfl ?_
      exact ih _ _ _ h
def f_M_bytesIn (x1 : Int32) (s : Mem) : RR :=
  mm_lp (fun kk => lp_M_bytesIn_4 x1 kk FU ((0 : Int32)) ((0 : Int32)) s) fun x2_4 s4 =>
  mm_ri x2_4 s4
set_option maxRecDepth 100000 in
set_option maxHeartbeats 4000000 in
theorem c_M_bytesIn {l : Launch} {K : KK} (x1 : Int32)  (s : Mem) (o : Oc) (q : Mem) (h : f_M_bytesIn x1 s = some (o, q)) : Ct l K y_M_bytesIn b_M_bytesIn 4 (some .int) 0 0 [.ref (aa K 30 0), .int x1] s o q := by
  refine Ct_of (own := "VillageMailModel") (L := [(0, _), (1, _)]) (by decide +kernel) rfl (Nat.le_of_ble_eq_true rfl) rfl (fun Γ G E => ?_)
  unfold f_M_bytesIn at h
  refine ww_iconst (v := (0 : Int32)) G d_M_bytesIn_0 ic_0 ?_
  refine ww_istore_n (L' := [(2, _), (0, _), (1, _)]) G d_M_bytesIn_1 rfl (by decide) rfl ?_
  refine ww_iconst (v := (0 : Int32)) G d_M_bytesIn_2 ic_0 ?_
  refine ww_istore_n (L' := [(3, _), (2, _), (0, _), (1, _)]) G d_M_bytesIn_3 rfl (by decide) rfl ?_
  refine ww_sub [2, 3, 1, 0] rfl ?_
  refine lp_M_bytesIn_4_ok x1 _ G E (fun x2_4 s4 h => ?_) FU _ _ _ h
  refine ww_iload_n 0 G d_M_bytesIn_39 rfl rfl ?_
  exact ww_iret G E d_M_bytesIn_40 h
def f_M_isFor (x1 : Int32) (x2 : Int32) (s : Mem) : RR :=
  mm_ld s 40 0 16 x1 fun v5 =>
  if ((3 : Int32)) ≤ v5 then (
    mm_ld s 39 0 16 x1 fun v39 =>
    mm_ld s 40 0 16 x1 fun v47 =>
    mm_ld s 56 0 48 (((((6 : Int32)) * v39) + (((3 : Int32)) * (v47 - ((3 : Int32))))) + x2) fun v54 =>
    mm_rz v54 s
  ) else (
    mm_ld s 40 0 16 x1 fun v15 =>
    if ¬ v15 = x2 then (
      mm_rz ((0 : Int32)) s
    ) else (
      mm_rz ((1 : Int32)) s
    )
  )
set_option maxRecDepth 100000 in
set_option maxHeartbeats 4000000 in
theorem c_M_isFor {l : Launch} {K : KK} (x1 : Int32) (x2 : Int32)  (s : Mem) (o : Oc) (q : Mem) (h : f_M_isFor x1 x2 s = some (o, q)) : Ct l K y_M_isFor b_M_isFor 3 (some .boolean) 0 0 [.ref (aa K 30 0), .int x1, .int x2] s o q := by
  refine Ct_of (own := "VillageMailModel") (L := [(0, _), (1, _), (2, _)]) (by decide +kernel) rfl (Nat.le_of_ble_eq_true rfl) rfl (fun Γ G E => ?_)
  unfold f_M_isFor at h
  refine ww_aload_n 0 G d_M_isFor_0 rfl rfl ?_
  refine ww_getr G fs_M_37 (by decide) d_M_isFor_1 ?_
  refine ww_iload_n 1 G d_M_isFor_4 rfl rfl ?_
  refine ww_iaload G ar_40 (by decide) d_M_isFor_5 h (fun v5 h => ?_)
  refine ww_iconst (v := (3 : Int32)) G d_M_isFor_6 ic_3 ?_
  refine ww_icmpge (tgt := 28) G d_M_isFor_7 (by decide) h (fun h => ?_) (fun h => ?_)
  · skip
    refine ww_aload_n 0 G d_M_isFor_28 rfl rfl ?_
    refine ww_getr G fs_M_86 (by decide) d_M_isFor_29 ?_
    refine ww_bipush (v := (6 : Int32)) G d_M_isFor_32 ib_6 ?_
    refine ww_aload_n 0 G d_M_isFor_34 rfl rfl ?_
    refine ww_getr G fs_M_34 (by decide) d_M_isFor_35 ?_
    refine ww_iload_n 1 G d_M_isFor_38 rfl rfl ?_
    refine ww_iaload G ar_39 (by decide) d_M_isFor_39 h (fun v39 h => ?_)
    refine ww_imul G d_M_isFor_40 ?_
    refine ww_iconst (v := (3 : Int32)) G d_M_isFor_41 ic_3 ?_
    refine ww_aload_n 0 G d_M_isFor_42 rfl rfl ?_
    refine ww_getr G fs_M_37 (by decide) d_M_isFor_43 ?_
    refine ww_iload_n 1 G d_M_isFor_46 rfl rfl ?_
    refine ww_iaload G ar_40 (by decide) d_M_isFor_47 h (fun v47 h => ?_)
    refine ww_iconst (v := (3 : Int32)) G d_M_isFor_48 ic_3 ?_
    refine ww_isub G d_M_isFor_49 ?_
    refine ww_imul G d_M_isFor_50 ?_
    refine ww_iadd G d_M_isFor_51 ?_
    refine ww_iload_n 2 G d_M_isFor_52 rfl rfl ?_
    refine ww_iadd G d_M_isFor_53 ?_
    refine ww_baload G ar_56 (by decide) d_M_isFor_54 h (fun v54 h => ?_)
    exact ww_zret G E d_M_isFor_55 h
  · skip
    refine ww_aload_n 0 G d_M_isFor_10 rfl rfl ?_
    refine ww_getr G fs_M_37 (by decide) d_M_isFor_11 ?_
    refine ww_iload_n 1 G d_M_isFor_14 rfl rfl ?_
    refine ww_iaload G ar_40 (by decide) d_M_isFor_15 h (fun v15 h => ?_)
    refine ww_iload_n 2 G d_M_isFor_16 rfl rfl ?_
    refine ww_icmpne (tgt := 24) G d_M_isFor_17 (by decide) h (fun h => ?_) (fun h => ?_)
    · skip
      refine ww_iconst (v := (0 : Int32)) G d_M_isFor_24 ic_0 ?_
      refine ww_goto (tgt := 55) G d_M_isFor_25 (by decide) ?_
      exact ww_zret G E d_M_isFor_55 h
    · skip
      refine ww_iconst (v := (1 : Int32)) G d_M_isFor_20 ic_1 ?_
      refine ww_goto (tgt := 55) G d_M_isFor_21 (by decide) ?_
      exact ww_zret G E d_M_isFor_55 h
def lp_M_complete_2 (x1 : Int32) (k : Mem → RR) : Nat → Int32 → Mem → RR
  | 0, _, _ => none
  | n + 1, x2, s =>
    mm_cI (f_M_pieces x1 s) fun v5 s5 =>
    if v5 ≤ x2 then (
      k s5
    ) else (
      mm_ld s5 39 0 16 x1 fun v20 =>
      mm_cI (f_M_at v20 x1 x2 s5) fun v23 s23 =>
      mm_ld s23 46 0 768 v23 fun v26 =>
      if ¬ v26 = 0 then (
        lp_M_complete_2 x1 k n (x2 + (1 : Int32)) s23
      ) else (
        mm_rz ((0 : Int32)) s23
      )
    )
set_option maxRecDepth 100000 in
set_option maxHeartbeats 4000000 in
theorem lp_M_complete_2_ok {K : KK} {Γ : Cx} {o : Oc} {q : Mem} (x1 : Int32)  (k : Mem → RR) (G : Good K Γ b_M_complete "VillageMailModel" 3 1 22) (E : Ends K Γ (some .boolean) o q)
    (Kx : ∀  (s : Mem), k s = some (o, q) → WW K Γ 0 s 38 [] []) :
    ∀ (n : Nat) (x2 : Int32) (s : Mem), lp_M_complete_2 x1 k n x2 s = some (o, q) → WW K Γ 0 s 2 [(0, .ref (aa K 30 0)), (1, .int x1), (2, .int x2)] [] := by
  intro n
  induction n with
  | zero => intro _ _ h; exact nomatch h
  | succ n ih =>
    intro x2 s h
    unfold lp_M_complete_2 at h
    refine ww_iload_n 2 G d_M_complete_2 rfl rfl ?_
    refine ww_aload_n 0 G d_M_complete_3 rfl rfl ?_
    refine ww_iload_n 1 G d_M_complete_4 rfl rfl ?_
    refine ww_cvI (As := [_]) G E cs_M_150 (by decide) (fun o q h => c_M_pieces x1 _ _ _ h) rfl rfl (Nat.le_of_ble_eq_true rfl) d_M_complete_5 (by decide) h (fun v5 s5 h => ?_)
    refine ww_icmpge (tgt := 38) G d_M_complete_8 (by decide) h (fun h => ?_) (fun h => ?_)
    · skip
      refine ww_sub [] rfl ?_
      exact Kx  _ h
    · skip
      refine ww_aload_n 0 G d_M_complete_11 rfl rfl ?_
      refine ww_getr G fs_M_56 (by decide) d_M_complete_12 ?_
      refine ww_aload_n 0 G d_M_complete_15 rfl rfl ?_
      refine ww_getr G fs_M_34 (by decide) d_M_complete_16 ?_
      refine ww_iload_n 1 G d_M_complete_19 rfl rfl ?_
      refine ww_iaload G ar_39 (by decide) d_M_complete_20 h (fun v20 h => ?_)
      refine ww_iload_n 1 G d_M_complete_21 rfl rfl ?_
      refine ww_iload_n 2 G d_M_complete_22 rfl rfl ?_
      refine ww_csI (As := [_, _, _]) G E cs_M_146 (fun o q h => c_M_at v20 x1 x2 _ _ _ h) rfl rfl (Nat.le_of_ble_eq_true rfl) d_M_complete_23 (by decide) h (fun v23 s23 h => ?_)
      refine ww_baload G ar_46 (by decide) d_M_complete_26 h (fun v26 h => ?_)
      refine ww_ifne (tgt := 32) G d_M_complete_27 (by decide) h (fun h => ?_) (fun h => ?_)
      · skip
        refine ww_iinc 2 (L' := [(2, _), (0, _), (1, _)]) G d_M_complete_32 rfl ic_1 (by decide) rfl ?_
        refine ww_goto (tgt := 2) G d_M_complete_35 (by decide) ?_
        refine ww_sub [1, 2, 0] rfl ?_
        exact ih _ _ h
      · skip
        refine ww_iconst (v := (0 : Int32)) G d_M_complete_30 ic_0 ?_
        exact ww_zret G E d_M_complete_31 h
def f_M_complete (x1 : Int32) (s : Mem) : RR :=
  mm_lp (fun kk => lp_M_complete_2 x1 kk FU ((0 : Int32)) s) fun s2 =>
  mm_rz ((1 : Int32)) s2
set_option maxRecDepth 100000 in
set_option maxHeartbeats 4000000 in
theorem c_M_complete {l : Launch} {K : KK} (x1 : Int32)  (s : Mem) (o : Oc) (q : Mem) (h : f_M_complete x1 s = some (o, q)) : Ct l K y_M_complete b_M_complete 3 (some .boolean) 1 22 [.ref (aa K 30 0), .int x1] s o q := by
  refine Ct_of (own := "VillageMailModel") (L := [(0, _), (1, _)]) (by decide +kernel) rfl (Nat.le_of_ble_eq_true rfl) rfl (fun Γ G E => ?_)
  unfold f_M_complete at h
  refine ww_iconst (v := (0 : Int32)) G d_M_complete_0 ic_0 ?_
  refine ww_istore_n (L' := [(2, _), (0, _), (1, _)]) G d_M_complete_1 rfl (by decide) rfl ?_
  refine ww_sub [1, 2, 0] rfl ?_
  refine lp_M_complete_2_ok x1 _ G E (fun s2 h => ?_) FU _ _ h
  refine ww_iconst (v := (1 : Int32)) G d_M_complete_38 ic_1 ?_
  exact ww_zret G E d_M_complete_39 h
def f_M_turned (x0 : Int32) (s : Mem) : RR :=
  mm_ri ((mm_ishl x0 ((5 : Int32))) ||| (mm_iushr x0 ((27 : Int32)))) s
set_option maxRecDepth 100000 in
set_option maxHeartbeats 4000000 in
theorem c_M_turned {l : Launch} {K : KK} (x0 : Int32)  (s : Mem) (o : Oc) (q : Mem) (h : f_M_turned x0 s = some (o, q)) : Ct l K y_M_turned b_M_turned 1 (some .int) 0 0 [.int x0] s o q := by
  refine Ct_of (own := "VillageMailModel") (L := [(0, _)]) (by decide +kernel) rfl (Nat.le_of_ble_eq_true rfl) rfl (fun Γ G E => ?_)
  unfold f_M_turned at h
  refine ww_iload_n 0 G d_M_turned_0 rfl rfl ?_
  refine ww_iconst (v := (5 : Int32)) G d_M_turned_1 ic_5 ?_
  refine ww_ishl G d_M_turned_2 ?_
  refine ww_iload_n 0 G d_M_turned_3 rfl rfl ?_
  refine ww_bipush (v := (27 : Int32)) G d_M_turned_4 ib_27 ?_
  refine ww_iushr G d_M_turned_6 ?_
  refine ww_ior G d_M_turned_7 ?_
  exact ww_iret G E d_M_turned_8 h
def f_M_byteOf (x1 : Int32) (x2 : Int32) (x3 : Int32) (s : Mem) : RR :=
  mm_cI (f_M_at x1 x2 (x3 / ((8 : Int32))) s) fun v12 s12 =>
  mm_ld s12 49 0 6144 ((((8 : Int32)) * v12) + (mm_irem x3 ((8 : Int32)))) fun v21 =>
  mm_ri v21 s12
set_option maxRecDepth 100000 in
set_option maxHeartbeats 4000000 in
theorem c_M_byteOf {l : Launch} {K : KK} (x1 : Int32) (x2 : Int32) (x3 : Int32)  (s : Mem) (o : Oc) (q : Mem) (h : f_M_byteOf x1 x2 x3 s = some (o, q)) : Ct l K y_M_byteOf b_M_byteOf 4 (some .int) 1 22 [.ref (aa K 30 0), .int x1, .int x2, .int x3] s o q := by
  refine Ct_of (own := "VillageMailModel") (L := [(0, _), (1, _), (2, _), (3, _)]) (by decide +kernel) rfl (Nat.le_of_ble_eq_true rfl) rfl (fun Γ G E => ?_)
  unfold f_M_byteOf at h
  refine ww_aload_n 0 G d_M_byteOf_0 rfl rfl ?_
  refine ww_getr G fs_M_65 (by decide) d_M_byteOf_1 ?_
  refine ww_bipush (v := (8 : Int32)) G d_M_byteOf_4 ib_8 ?_
  refine ww_iload_n 1 G d_M_byteOf_6 rfl rfl ?_
  refine ww_iload_n 2 G d_M_byteOf_7 rfl rfl ?_
  refine ww_iload_n 3 G d_M_byteOf_8 rfl rfl ?_
  refine ww_bipush (v := (8 : Int32)) G d_M_byteOf_9 ib_8 ?_
  refine ww_idiv G d_M_byteOf_11 (by decide) ?_
  refine ww_csI (As := [_, _, _]) G E cs_M_146 (fun o q h => c_M_at x1 x2 (x3 / ((8 : Int32))) _ _ _ h) rfl rfl (Nat.le_of_ble_eq_true rfl) d_M_byteOf_12 (by decide) h (fun v12 s12 h => ?_)
  refine ww_imul G d_M_byteOf_15 ?_
  refine ww_iload_n 3 G d_M_byteOf_16 rfl rfl ?_
  refine ww_bipush (v := (8 : Int32)) G d_M_byteOf_17 ib_8 ?_
  refine ww_irem G d_M_byteOf_19 (by decide) ?_
  refine ww_iadd G d_M_byteOf_20 ?_
  refine ww_iaload G ar_49 (by decide) d_M_byteOf_21 h (fun v21 h => ?_)
  exact ww_iret G E d_M_byteOf_22 h

def f_M_status (x1 : Int32) (s : Mem) : RR :=
  mm_cI (f_M_isLetter x1 s) fun v3 s3 =>
  mm_jn (fun (y14 : Int32) s14 =>
    mm_pf s14 30 0 31 y14 fun s14 =>
    mm_gf s14 30 0 31 fun v18 =>
    if v18 = 0 then (
      mm_ld s14 38 0 16 x1 fun v37 =>
      mm_ld s14 50 0 192 ((((16 : Int32)) * v37) + x1) fun v41 =>
      if v41 = 0 then (
        mm_ld s14 44 0 16 x1 fun v56 =>
        if v56 = 0 then (
          mm_ri ((0 : Int32)) s14
        ) else (
          mm_ri ((3 : Int32)) s14
        )
      ) else (
        mm_ri v41 s14
      )
    ) else (
      mm_ri ((0 : Int32)) s14
    )
  ) (fun r14 =>
  if v3 = 0 then (
    r14 ((1 : Int32)) s3
  ) else (
    r14 ((0 : Int32)) s3
  ))
set_option maxRecDepth 100000 in
set_option maxHeartbeats 4000000 in
theorem c_M_status {l : Launch} {K : KK} (x1 : Int32)  (s : Mem) (o : Oc) (q : Mem) (h : f_M_status x1 s = some (o, q)) : Ct l K y_M_status b_M_status 3 (some .int) 1 21 [.ref (aa K 30 0), .int x1] s o q := by
  refine Ct_of (own := "VillageMailModel") (L := [(0, _), (1, _)]) (by decide +kernel) rfl (Nat.le_of_ble_eq_true rfl) rfl (fun Γ G E => ?_)
  unfold f_M_status at h
  refine ww_aload_n 0 G d_M_status_0 rfl rfl ?_
  refine ww_aload_n 0 G d_M_status_1 rfl rfl ?_
  refine ww_iload_n 1 G d_M_status_2 rfl rfl ?_
  refine ww_cvI (As := [_]) G E cs_M_220 (by decide) (fun o q h => c_M_isLetter x1 _ _ _ h) rfl rfl (Nat.le_of_ble_eq_true rfl) d_M_status_3 (by decide) h (fun v3 s3 h => ?_)
  refine ww_jn h (fun (y14 : Int32) (s14 : Mem) => WW K Γ 0 s14 14 [(0, .ref (aa K 30 0)), (1, .int x1)] [.int y14, .ref (aa K 30 0)]) (fun y14 s14 h => ?_) (fun r14 J14 h => ?_)
  · skip
    refine ww_putf G fs_M_104 (by decide) d_M_status_14 h (fun s14 h => ?_)
    refine ww_aload_n 0 G d_M_status_17 rfl rfl ?_
    refine ww_getf G fs_M_104 (by decide) d_M_status_18 h (fun v18 h => ?_)
    refine ww_ifeq (tgt := 26) G d_M_status_21 (by decide) h (fun h => ?_) (fun h => ?_)
    · skip
      refine ww_aload_n 0 G d_M_status_26 rfl rfl ?_
      refine ww_getr G fs_M_68 (by decide) d_M_status_27 ?_
      refine ww_bipush (v := (16 : Int32)) G d_M_status_30 ib_16 ?_
      refine ww_aload_n 0 G d_M_status_32 rfl rfl ?_
      refine ww_getr G fs_M_31 (by decide) d_M_status_33 ?_
      refine ww_iload_n 1 G d_M_status_36 rfl rfl ?_
      refine ww_iaload G ar_38 (by decide) d_M_status_37 h (fun v37 h => ?_)
      refine ww_imul G d_M_status_38 ?_
      refine ww_iload_n 1 G d_M_status_39 rfl rfl ?_
      refine ww_iadd G d_M_status_40 ?_
      refine ww_iaload G ar_50 (by decide) d_M_status_41 h (fun v41 h => ?_)
      refine ww_istore_n (L' := [(2, _), (0, _), (1, _)]) G d_M_status_42 rfl (by decide) rfl ?_
      refine ww_iload_n 0 G d_M_status_43 rfl rfl ?_
      refine ww_ifeq (tgt := 51) G d_M_status_44 (by decide) h (fun h => ?_) (fun h => ?_)
      · skip
        refine ww_aload_n 1 G d_M_status_51 rfl rfl ?_
        refine ww_getr G fs_M_49 (by decide) d_M_status_52 ?_
        refine ww_iload_n 2 G d_M_status_55 rfl rfl ?_
        refine ww_baload G ar_44 (by decide) d_M_status_56 h (fun v56 h => ?_)
        refine ww_ifeq (tgt := 64) G d_M_status_57 (by decide) h (fun h => ?_) (fun h => ?_)
        · skip
          refine ww_iconst (v := (0 : Int32)) G d_M_status_64 ic_0 ?_
          exact ww_iret G E d_M_status_65 h
        · skip
          refine ww_iconst (v := (3 : Int32)) G d_M_status_60 ic_3 ?_
          refine ww_goto (tgt := 65) G d_M_status_61 (by decide) ?_
          exact ww_iret G E d_M_status_65 h
      · skip
        refine ww_iload_n 0 G d_M_status_47 rfl rfl ?_
        refine ww_goto (tgt := 65) G d_M_status_48 (by decide) ?_
        exact ww_iret G E d_M_status_65 h
    · skip
      refine ww_iconst (v := (0 : Int32)) G d_M_status_24 ic_0 ?_
      exact ww_iret G E d_M_status_25 h
  refine ww_ifeq (tgt := 13) G d_M_status_6 (by decide) h (fun h => ?_) (fun h => ?_)
  · skip
    refine ww_iconst (v := (1 : Int32)) G d_M_status_13 ic_1 ?_
    exact J14 _ _ h
  · skip
    refine ww_iconst (v := (0 : Int32)) G d_M_status_9 ic_0 ?_
    refine ww_goto (tgt := 14) G d_M_status_10 (by decide) ?_
    exact J14 _ _ h
def lp_M_custodians_37 (x1 : Int32) (x3 : Int32) (k : Int32 → Mem → RR) : Nat → Int32 → Int32 → Mem → RR
  | 0, _, _, _ => none
  | n + 1, x2, x4, s =>
    if ((4 : Int32)) ≤ x4 then (
      k x2 s
    ) else (
      mm_cI (f_M_at x3 x1 x4 s) fun v51 s51 =>
      mm_ld s51 46 0 768 v51 fun v54 =>
      if v54 = 0 then (
        lp_M_custodians_37 x1 x3 k n x2 (x4 + (1 : Int32)) s51
      ) else (
        lp_M_custodians_37 x1 x3 k n (x2 ||| (mm_ishl ((1 : Int32)) x3)) (x4 + (1 : Int32)) s51
      )
    )
set_option maxRecDepth 100000 in
set_option maxHeartbeats 4000000 in
theorem lp_M_custodians_37_ok {K : KK} {Γ : Cx} {o : Oc} {q : Mem} (x1 : Int32) (x3 : Int32)  (k : Int32 → Mem → RR) (G : Good K Γ b_M_custodians "VillageMailModel" 5 1 22) (E : Ends K Γ (some .int) o q)
    (Kx : ∀ (x2 : Int32) (s : Mem), k x2 s = some (o, q) → WW K Γ 0 s 70 [(0, .ref (aa K 30 0)), (1, .int x1), (2, .int x2), (3, .int x3)] []) :
    ∀ (n : Nat) (x2 : Int32) (x4 : Int32) (s : Mem), lp_M_custodians_37 x1 x3 k n x2 x4 s = some (o, q) → WW K Γ 0 s 37 [(0, .ref (aa K 30 0)), (1, .int x1), (2, .int x2), (3, .int x3), (4, .int x4)] [] := by
  intro n
  induction n with
  | zero => intro _ _ _ h; exact nomatch h
  | succ n ih =>
    intro x2 x4 s h
    unfold lp_M_custodians_37 at h
    refine ww_iload 4 G d_M_custodians_37 rfl ?_
    refine ww_iconst (v := (4 : Int32)) G d_M_custodians_39 ic_4 ?_
    refine ww_icmpge (tgt := 70) G d_M_custodians_40 (by decide) h (fun h => ?_) (fun h => ?_)
    · skip
      refine ww_sub [0, 1, 2, 3] rfl ?_
      exact Kx _ _ h
    · skip
      refine ww_aload_n 0 G d_M_custodians_43 rfl rfl ?_
      refine ww_getr G fs_M_56 (by decide) d_M_custodians_44 ?_
      refine ww_iload_n 3 G d_M_custodians_47 rfl rfl ?_
      refine ww_iload_n 1 G d_M_custodians_48 rfl rfl ?_
      refine ww_iload 4 G d_M_custodians_49 rfl ?_
      refine ww_csI (As := [_, _, _]) G E cs_M_146 (fun o q h => c_M_at x3 x1 x4 _ _ _ h) rfl rfl (Nat.le_of_ble_eq_true rfl) d_M_custodians_51 (by decide) h (fun v51 s51 h => ?_)
      refine ww_baload G ar_46 (by decide) d_M_custodians_54 h (fun v54 h => ?_)
      refine ww_ifeq (tgt := 64) G d_M_custodians_55 (by decide) h (fun h => ?_) (fun h => ?_)
      · skip
        refine ww_iinc 4 (L' := [(4, _), (0, _), (1, _), (2, _), (3, _)]) G d_M_custodians_64 rfl ic_1 (by decide) rfl ?_
        refine ww_goto (tgt := 37) G d_M_custodians_67 (by decide) ?_
        refine ww_sub [1, 2, 3, 4, 0] rfl ?_
        exact ih _ _ _ h
      · skip
        refine ww_iload_n 2 G d_M_custodians_58 rfl rfl ?_
        refine ww_iconst (v := (1 : Int32)) G d_M_custodians_59 ic_1 ?_
        refine ww_iload_n 3 G d_M_custodians_60 rfl rfl ?_
        refine ww_ishl G d_M_custodians_61 ?_
        refine ww_ior G d_M_custodians_62 ?_
        refine ww_istore_n (L' := [(2, _), (0, _), (1, _), (3, _), (4, _)]) G d_M_custodians_63 rfl (by decide) rfl ?_
        refine ww_iinc 4 (L' := [(4, _), (2, _), (0, _), (1, _), (3, _)]) G d_M_custodians_64 rfl ic_1 (by decide) rfl ?_
        refine ww_goto (tgt := 37) G d_M_custodians_67 (by decide) ?_
        refine ww_sub [2, 3, 1, 4, 0] rfl ?_
        exact ih _ _ _ h
def lp_M_custodians_21 (x1 : Int32) (k : Int32 → Mem → RR) : Nat → Int32 → Int32 → Mem → RR
  | 0, _, _, _ => none
  | n + 1, x2, x3, s =>
    if ((12 : Int32)) ≤ x3 then (
      k x2 s
    ) else (
      mm_gf s 30 0 31 fun v28 =>
      if ¬ v28 = 0 then (
        k x2 s
      ) else (
        mm_lp (fun kk => lp_M_custodians_37 x1 x3 kk FU x2 ((0 : Int32)) s) fun x2_37 s37 =>
        lp_M_custodians_21 x1 k n x2_37 (x3 + (1 : Int32)) s37
      )
    )
set_option maxRecDepth 100000 in
set_option maxHeartbeats 4000000 in
theorem lp_M_custodians_21_ok {K : KK} {Γ : Cx} {o : Oc} {q : Mem} (x1 : Int32)  (k : Int32 → Mem → RR) (G : Good K Γ b_M_custodians "VillageMailModel" 5 1 22) (E : Ends K Γ (some .int) o q)
    (Kx : ∀ (x2 : Int32) (s : Mem), k x2 s = some (o, q) → WW K Γ 0 s 76 [(2, .int x2)] []) :
    ∀ (n : Nat) (x2 : Int32) (x3 : Int32) (s : Mem), lp_M_custodians_21 x1 k n x2 x3 s = some (o, q) → WW K Γ 0 s 21 [(0, .ref (aa K 30 0)), (1, .int x1), (2, .int x2), (3, .int x3)] [] := by
  intro n
  induction n with
  | zero => intro _ _ _ h; exact nomatch h
  | succ n ih =>
    intro x2 x3 s h
    unfold lp_M_custodians_21 at h
    refine ww_iload_n 3 G d_M_custodians_21 rfl rfl ?_
    refine ww_bipush (v := (12 : Int32)) G d_M_custodians_22 ib_12 ?_
    refine ww_icmpge (tgt := 76) G d_M_custodians_24 (by decide) h (fun h => ?_) (fun h => ?_)
    · skip
      refine ww_sub [2] rfl ?_
      exact Kx _ _ h
    · skip
      refine ww_aload_n 0 G d_M_custodians_27 rfl rfl ?_
      refine ww_getf G fs_M_104 (by decide) d_M_custodians_28 h (fun v28 h => ?_)
      refine ww_ifne (tgt := 76) G d_M_custodians_31 (by decide) h (fun h => ?_) (fun h => ?_)
      · skip
        refine ww_sub [2] rfl ?_
        exact Kx _ _ h
      · skip
        refine ww_iconst (v := (0 : Int32)) G d_M_custodians_34 ic_0 ?_
        refine ww_istore (L' := [(4, _), (0, _), (1, _), (2, _), (3, _)]) G d_M_custodians_35 (by decide) rfl ?_
        refine ww_sub [1, 2, 3, 4, 0] rfl ?_
        refine lp_M_custodians_37_ok x1 x3 _ G E (fun x2_37 s37 h => ?_) FU _ _ _ h
        refine ww_iinc 3 (L' := [(3, _), (0, _), (1, _), (2, _)]) G d_M_custodians_70 rfl ic_1 (by decide) rfl ?_
        refine ww_goto (tgt := 21) G d_M_custodians_73 (by decide) ?_
        refine ww_sub [1, 2, 3, 0] rfl ?_
        exact ih _ _ _ h
def f_M_custodians (x1 : Int32) (s : Mem) : RR :=
  mm_cI (f_M_isLetter x1 s) fun v3 s3 =>
  mm_jn (fun (y14 : Int32) s14 =>
    mm_pf s14 30 0 31 y14 fun s14 =>
    mm_lp (fun kk => lp_M_custodians_21 x1 kk FU ((0 : Int32)) ((0 : Int32)) s14) fun x2_21 s21 =>
    mm_ri x2_21 s21
  ) (fun r14 =>
  if v3 = 0 then (
    r14 ((1 : Int32)) s3
  ) else (
    r14 ((0 : Int32)) s3
  ))
set_option maxRecDepth 100000 in
set_option maxHeartbeats 4000000 in
theorem c_M_custodians {l : Launch} {K : KK} (x1 : Int32)  (s : Mem) (o : Oc) (q : Mem) (h : f_M_custodians x1 s = some (o, q)) : Ct l K y_M_custodians b_M_custodians 5 (some .int) 1 22 [.ref (aa K 30 0), .int x1] s o q := by
  refine Ct_of (own := "VillageMailModel") (L := [(0, _), (1, _)]) (by decide +kernel) rfl (Nat.le_of_ble_eq_true rfl) rfl (fun Γ G E => ?_)
  unfold f_M_custodians at h
  refine ww_aload_n 0 G d_M_custodians_0 rfl rfl ?_
  refine ww_aload_n 0 G d_M_custodians_1 rfl rfl ?_
  refine ww_iload_n 1 G d_M_custodians_2 rfl rfl ?_
  refine ww_cvI (As := [_]) G E cs_M_220 (by decide) (fun o q h => c_M_isLetter x1 _ _ _ h) rfl rfl (Nat.le_of_ble_eq_true rfl) d_M_custodians_3 (by decide) h (fun v3 s3 h => ?_)
  refine ww_jn h (fun (y14 : Int32) (s14 : Mem) => WW K Γ 0 s14 14 [(0, .ref (aa K 30 0)), (1, .int x1)] [.int y14, .ref (aa K 30 0)]) (fun y14 s14 h => ?_) (fun r14 J14 h => ?_)
  · skip
    refine ww_putf G fs_M_104 (by decide) d_M_custodians_14 h (fun s14 h => ?_)
    refine ww_iconst (v := (0 : Int32)) G d_M_custodians_17 ic_0 ?_
    refine ww_istore_n (L' := [(2, _), (0, _), (1, _)]) G d_M_custodians_18 rfl (by decide) rfl ?_
    refine ww_iconst (v := (0 : Int32)) G d_M_custodians_19 ic_0 ?_
    refine ww_istore_n (L' := [(3, _), (2, _), (0, _), (1, _)]) G d_M_custodians_20 rfl (by decide) rfl ?_
    refine ww_sub [2, 3, 1, 0] rfl ?_
    refine lp_M_custodians_21_ok x1 _ G E (fun x2_21 s21 h => ?_) FU _ _ _ h
    refine ww_iload_n 0 G d_M_custodians_76 rfl rfl ?_
    exact ww_iret G E d_M_custodians_77 h
  refine ww_ifeq (tgt := 13) G d_M_custodians_6 (by decide) h (fun h => ?_) (fun h => ?_)
  · skip
    refine ww_iconst (v := (1 : Int32)) G d_M_custodians_13 ic_1 ?_
    exact J14 _ _ h
  · skip
    refine ww_iconst (v := (0 : Int32)) G d_M_custodians_9 ic_0 ?_
    refine ww_goto (tgt := 14) G d_M_custodians_10 (by decide) ?_
    exact J14 _ _ h
def f_M_promise (x1 : Int32) (s : Mem) : RR :=
  mm_cI (f_M_isLetter x1 s) fun v3 s3 =>
  mm_jn (fun (y14 : Int32) s14 =>
    mm_pf s14 30 0 31 y14 fun s14 =>
    mm_gf s14 30 0 31 fun v18 =>
    if v18 = 0 then (
      mm_ld s14 43 0 16 x1 fun v33 =>
      mm_ri v33 s14
    ) else (
      mm_ri ((0 : Int32)) s14
    )
  ) (fun r14 =>
  if v3 = 0 then (
    r14 ((1 : Int32)) s3
  ) else (
    r14 ((0 : Int32)) s3
  ))
set_option maxRecDepth 100000 in
set_option maxHeartbeats 4000000 in
theorem c_M_promise {l : Launch} {K : KK} (x1 : Int32)  (s : Mem) (o : Oc) (q : Mem) (h : f_M_promise x1 s = some (o, q)) : Ct l K y_M_promise b_M_promise 2 (some .int) 1 21 [.ref (aa K 30 0), .int x1] s o q := by
  refine Ct_of (own := "VillageMailModel") (L := [(0, _), (1, _)]) (by decide +kernel) rfl (Nat.le_of_ble_eq_true rfl) rfl (fun Γ G E => ?_)
  unfold f_M_promise at h
  refine ww_aload_n 0 G d_M_promise_0 rfl rfl ?_
  refine ww_aload_n 0 G d_M_promise_1 rfl rfl ?_
  refine ww_iload_n 1 G d_M_promise_2 rfl rfl ?_
  refine ww_cvI (As := [_]) G E cs_M_220 (by decide) (fun o q h => c_M_isLetter x1 _ _ _ h) rfl rfl (Nat.le_of_ble_eq_true rfl) d_M_promise_3 (by decide) h (fun v3 s3 h => ?_)
  refine ww_jn h (fun (y14 : Int32) (s14 : Mem) => WW K Γ 0 s14 14 [(0, .ref (aa K 30 0)), (1, .int x1)] [.int y14, .ref (aa K 30 0)]) (fun y14 s14 h => ?_) (fun r14 J14 h => ?_)
  · skip
    refine ww_putf G fs_M_104 (by decide) d_M_promise_14 h (fun s14 h => ?_)
    refine ww_aload_n 0 G d_M_promise_17 rfl rfl ?_
    refine ww_getf G fs_M_104 (by decide) d_M_promise_18 h (fun v18 h => ?_)
    refine ww_ifeq (tgt := 28) G d_M_promise_21 (by decide) h (fun h => ?_) (fun h => ?_)
    · skip
      refine ww_aload_n 0 G d_M_promise_28 rfl rfl ?_
      refine ww_getr G fs_M_46 (by decide) d_M_promise_29 ?_
      refine ww_iload_n 1 G d_M_promise_32 rfl rfl ?_
      refine ww_iaload G ar_43 (by decide) d_M_promise_33 h (fun v33 h => ?_)
      exact ww_iret G E d_M_promise_34 h
    · skip
      refine ww_iconst (v := (0 : Int32)) G d_M_promise_24 ic_0 ?_
      refine ww_goto (tgt := 34) G d_M_promise_25 (by decide) ?_
      exact ww_iret G E d_M_promise_34 h
  refine ww_ifeq (tgt := 13) G d_M_promise_6 (by decide) h (fun h => ?_) (fun h => ?_)
  · skip
    refine ww_iconst (v := (1 : Int32)) G d_M_promise_13 ic_1 ?_
    exact J14 _ _ h
  · skip
    refine ww_iconst (v := (0 : Int32)) G d_M_promise_9 ic_0 ?_
    refine ww_goto (tgt := 14) G d_M_promise_10 (by decide) ?_
    exact J14 _ _ h
def f_M_store (x1 : Int32) (x2 : Int32) (s : Mem) : RR :=
  mm_cI (f_M_upTo x1 ((11 : Int32)) s) fun v4 s4 =>
  mm_jn (fun (y23 : Int32) s23 =>
    mm_pf s23 30 0 31 y23 fun s23 =>
    mm_gf s23 30 0 31 fun v27 =>
    if v27 = 0 then (
      if ¬ x2 = 0 then (
        if ¬ x2 = ((1 : Int32)) then (
          if ¬ x2 = ((2 : Int32)) then (
            mm_ld s23 52 0 12 x1 fun v80 =>
            mm_ri v80 s23
          ) else (
            mm_ld s23 51 0 12 x1 fun v71 =>
            mm_ri v71 s23
          )
        ) else (
          mm_ld s23 35 0 12 x1 fun v57 =>
          mm_ri v57 s23
        )
      ) else (
        mm_cI (f_M_room x1 s23) fun v41 s41 =>
        mm_ri v41 s41
      )
    ) else (
      mm_ri ((0 : Int32)) s23
    )
  ) (fun r23 =>
  if v4 = 0 then (
    r23 ((1 : Int32)) s4
  ) else (
    mm_cI (f_M_upTo x2 ((3 : Int32)) s4) fun v12 s12 =>
    if v12 = 0 then (
      r23 ((1 : Int32)) s12
    ) else (
      r23 ((0 : Int32)) s12
    )
  ))
set_option maxRecDepth 100000 in
set_option maxHeartbeats 4000000 in
theorem c_M_store {l : Launch} {K : KK} (x1 : Int32) (x2 : Int32)  (s : Mem) (o : Oc) (q : Mem) (h : f_M_store x1 x2 s = some (o, q)) : Ct l K y_M_store b_M_store 3 (some .int) 1 23 [.ref (aa K 30 0), .int x1, .int x2] s o q := by
  refine Ct_of (own := "VillageMailModel") (L := [(0, _), (1, _), (2, _)]) (by decide +kernel) rfl (Nat.le_of_ble_eq_true rfl) rfl (fun Γ G E => ?_)
  unfold f_M_store at h
  refine ww_aload_n 0 G d_M_store_0 rfl rfl ?_
  refine ww_iload_n 1 G d_M_store_1 rfl rfl ?_
  refine ww_bipush (v := (11 : Int32)) G d_M_store_2 ib_11 ?_
  refine ww_csI (As := [_, _]) G E cs_M_108 (fun o q h => c_M_upTo x1 ((11 : Int32)) _ _ _ h) rfl rfl (Nat.le_of_ble_eq_true rfl) d_M_store_4 (by decide) h (fun v4 s4 h => ?_)
  refine ww_jn h (fun (y23 : Int32) (s23 : Mem) => WW K Γ 0 s23 23 [(0, .ref (aa K 30 0)), (1, .int x1), (2, .int x2)] [.int y23, .ref (aa K 30 0)]) (fun y23 s23 h => ?_) (fun r23 J23 h => ?_)
  · skip
    refine ww_putf G fs_M_104 (by decide) d_M_store_23 h (fun s23 h => ?_)
    refine ww_aload_n 0 G d_M_store_26 rfl rfl ?_
    refine ww_getf G fs_M_104 (by decide) d_M_store_27 h (fun v27 h => ?_)
    refine ww_ifeq (tgt := 35) G d_M_store_30 (by decide) h (fun h => ?_) (fun h => ?_)
    · skip
      refine ww_iload_n 2 G d_M_store_35 rfl rfl ?_
      refine ww_ifne (tgt := 47) G d_M_store_36 (by decide) h (fun h => ?_) (fun h => ?_)
      · skip
        refine ww_iload_n 2 G d_M_store_47 rfl rfl ?_
        refine ww_iconst (v := (1 : Int32)) G d_M_store_48 ic_1 ?_
        refine ww_icmpne (tgt := 61) G d_M_store_49 (by decide) h (fun h => ?_) (fun h => ?_)
        · skip
          refine ww_iload_n 2 G d_M_store_61 rfl rfl ?_
          refine ww_iconst (v := (2 : Int32)) G d_M_store_62 ic_2 ?_
          refine ww_icmpne (tgt := 75) G d_M_store_63 (by decide) h (fun h => ?_) (fun h => ?_)
          · skip
            refine ww_aload_n 0 G d_M_store_75 rfl rfl ?_
            refine ww_getr G fs_M_74 (by decide) d_M_store_76 ?_
            refine ww_iload_n 1 G d_M_store_79 rfl rfl ?_
            refine ww_iaload G ar_52 (by decide) d_M_store_80 h (fun v80 h => ?_)
            exact ww_iret G E d_M_store_81 h
          · skip
            refine ww_aload_n 0 G d_M_store_66 rfl rfl ?_
            refine ww_getr G fs_M_71 (by decide) d_M_store_67 ?_
            refine ww_iload_n 1 G d_M_store_70 rfl rfl ?_
            refine ww_iaload G ar_51 (by decide) d_M_store_71 h (fun v71 h => ?_)
            refine ww_goto (tgt := 81) G d_M_store_72 (by decide) ?_
            exact ww_iret G E d_M_store_81 h
        · skip
          refine ww_aload_n 0 G d_M_store_52 rfl rfl ?_
          refine ww_getr G fs_M_22 (by decide) d_M_store_53 ?_
          refine ww_iload_n 1 G d_M_store_56 rfl rfl ?_
          refine ww_iaload G ar_35 (by decide) d_M_store_57 h (fun v57 h => ?_)
          refine ww_goto (tgt := 81) G d_M_store_58 (by decide) ?_
          exact ww_iret G E d_M_store_81 h
      · skip
        refine ww_aload_n 0 G d_M_store_39 rfl rfl ?_
        refine ww_iload_n 1 G d_M_store_40 rfl rfl ?_
        refine ww_cvI (As := [_]) G E cs_M_183 (by decide) (fun o q h => c_M_room x1 _ _ _ h) rfl rfl (Nat.le_of_ble_eq_true rfl) d_M_store_41 (by decide) h (fun v41 s41 h => ?_)
        refine ww_goto (tgt := 81) G d_M_store_44 (by decide) ?_
        exact ww_iret G E d_M_store_81 h
    · skip
      refine ww_iconst (v := (0 : Int32)) G d_M_store_33 ic_0 ?_
      exact ww_iret G E d_M_store_34 h
  refine ww_ifeq (tgt := 22) G d_M_store_7 (by decide) h (fun h => ?_) (fun h => ?_)
  · skip
    refine ww_iconst (v := (1 : Int32)) G d_M_store_22 ic_1 ?_
    exact J23 _ _ h
  · skip
    refine ww_iload_n 2 G d_M_store_10 rfl rfl ?_
    refine ww_iconst (v := (3 : Int32)) G d_M_store_11 ic_3 ?_
    refine ww_csI (As := [_, _]) G E cs_M_108 (fun o q h => c_M_upTo x2 ((3 : Int32)) _ _ _ h) rfl rfl (Nat.le_of_ble_eq_true rfl) d_M_store_12 (by decide) h (fun v12 s12 h => ?_)
    refine ww_ifeq (tgt := 22) G d_M_store_15 (by decide) h (fun h => ?_) (fun h => ?_)
    · skip
      refine ww_iconst (v := (1 : Int32)) G d_M_store_22 ic_1 ?_
      exact J23 _ _ h
    · skip
      refine ww_iconst (v := (0 : Int32)) G d_M_store_18 ic_0 ?_
      refine ww_goto (tgt := 23) G d_M_store_19 (by decide) ?_
      exact J23 _ _ h

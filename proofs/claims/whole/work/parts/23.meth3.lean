def f_X_lookAt (x1 : Int32) (s : Mem) : RR :=
  mm_al 16 x1 fun j5 =>
  mm_gf s 19 j5 1 fun v12 =>
  mm_al 12 v12 fun j15 =>
  mm_ld s 11 j15 16 x1 fun v22 =>
  if ¬ v22 = 0 then (
    mm_rv s
  ) else (
    mm_cI (f_S_countOf j15 x1 s) fun v28 s28 =>
    mm_gf s28 19 j5 6 fun v32 =>
    mm_cI (f_X_piecesIn v32 s28) fun v35 s35 =>
    if v35 ≤ v28 then (
      mm_cp s35 10 j15 64 (x1 * ((4 : Int32))) 20 j5 4 ((0 : Int32)) ((4 : Int32)) fun s55 =>
      mm_gf s55 19 j5 6 fun v63 =>
      mm_cI (f_X_sumOf_20 j5 v63 s55) fun v66 s66 =>
      mm_gf s66 19 j5 7 fun v70 =>
      if v66 = v70 then (
        mm_gf s66 19 j5 1 fun v90 =>
        mm_al 8 v90 fun j93 =>
        mm_gf s66 19 j5 2 fun v95 =>
        mm_gf s66 19 j5 6 fun v100 =>
        mm_cI (f_C_putInto j93 v95 x1 v100 s66) fun v103 s103 =>
        if v103 = 0 then (
          mm_rv s103
        ) else (
          mm_cV (f_S_learnOf j15 x1 ((1 : Int32)) s103) fun s112 =>
          mm_rv s112
        )
      ) else (
        mm_cV (f_S_learnOf j15 x1 ((2 : Int32)) s66) fun s79 =>
        mm_rv s79
      )
    ) else (
      mm_rv s35
    )
  )
set_option maxRecDepth 100000 in
set_option maxHeartbeats 4000000 in
theorem c_X_lookAt {l : Launch} {K : KK} (x1 : Int32)  (s : Mem) (o : Oc) (q : Mem) (h : f_X_lookAt x1 s = some (o, q)) : Ct l K y_X_lookAt b_X_lookAt 4 none 4 86 [.ref (aa K 0 0), .int x1] s o q := by
  refine Ct_of (own := "VillageMail") (L := [(0, _), (1, _)]) (by decide +kernel) rfl (Nat.le_of_ble_eq_true rfl) rfl (fun Γ G E => ?_)
  unfold f_X_lookAt at h
  refine ww_aload_n 0 G d_X_lookAt_0 rfl rfl ?_
  refine ww_getr G fs_X_38 (by decide) d_X_lookAt_1 ?_
  refine ww_iload_n 1 G d_X_lookAt_4 rfl rfl ?_
  refine ww_aaload G ar_18 (by decide) d_X_lookAt_5 h (fun j5 hj5 h => ?_)
  refine ww_astore_n (L' := [(2, _), (0, _), (1, _)]) G d_X_lookAt_6 rfl (by decide) rfl ?_
  refine ww_aload_n 1 G d_X_lookAt_7 rfl rfl ?_
  refine ww_getr G fs_X_22 (by decide) d_X_lookAt_8 ?_
  refine ww_aload_n 0 G d_X_lookAt_11 rfl rfl ?_
  refine ww_getf G fs_X_185 hj5 d_X_lookAt_12 h (fun v12 h => ?_)
  refine ww_aaload G ar_6 (by decide) d_X_lookAt_15 h (fun j15 hj15 h => ?_)
  refine ww_astore_n (L' := [(3, _), (2, _), (0, _), (1, _)]) G d_X_lookAt_16 rfl (by decide) rfl ?_
  refine ww_aload_n 0 G d_X_lookAt_17 rfl rfl ?_
  refine ww_getr G fs_X_227 hj15 d_X_lookAt_18 ?_
  refine ww_iload_n 3 G d_X_lookAt_21 rfl rfl ?_
  refine ww_iaload G ar_11 hj15 d_X_lookAt_22 h (fun v22 h => ?_)
  refine ww_ifne (tgt := 41) G d_X_lookAt_23 (by decide) h (fun h => ?_) (fun h => ?_)
  · skip
    exact ww_vret G E d_X_lookAt_41 h
  · skip
    refine ww_aload_n 0 G d_X_lookAt_26 rfl rfl ?_
    refine ww_iload_n 3 G d_X_lookAt_27 rfl rfl ?_
    refine ww_cvI (As := [_]) G E cs_X_234 hj15 (fun o q h => c_S_countOf j15 x1 hj15 _ _ _ h) rfl rfl (Nat.le_of_ble_eq_true rfl) d_X_lookAt_28 (by decide) h (fun v28 s28 h => ?_)
    refine ww_aload_n 1 G d_X_lookAt_31 rfl rfl ?_
    refine ww_getf G fs_X_152 hj5 d_X_lookAt_32 h (fun v32 h => ?_)
    refine ww_csI (As := [_]) G E cs_X_178 (fun o q h => c_X_piecesIn v32 _ _ _ h) rfl rfl (Nat.le_of_ble_eq_true rfl) d_X_lookAt_35 (by decide) h (fun v35 s35 h => ?_)
    refine ww_icmpge (tgt := 42) G d_X_lookAt_38 (by decide) h (fun h => ?_) (fun h => ?_)
    · skip
      refine ww_aload_n 0 G d_X_lookAt_42 rfl rfl ?_
      refine ww_getr G fs_X_253 hj15 d_X_lookAt_43 ?_
      refine ww_iload_n 3 G d_X_lookAt_46 rfl rfl ?_
      refine ww_iconst (v := (4 : Int32)) G d_X_lookAt_47 ic_4 ?_
      refine ww_imul G d_X_lookAt_48 ?_
      refine ww_aload_n 1 G d_X_lookAt_49 rfl rfl ?_
      refine ww_getr G fs_X_155 hj5 d_X_lookAt_50 ?_
      refine ww_iconst (v := (0 : Int32)) G d_X_lookAt_53 ic_0 ?_
      refine ww_iconst (v := (4 : Int32)) G d_X_lookAt_54 ic_4 ?_
      refine ww_acopy G ac_X_255 ar_10 hj15 ar_20 hj5 (by decide +kernel) d_X_lookAt_55 h (fun s55 h => ?_)
      refine ww_aload_n 1 G d_X_lookAt_58 rfl rfl ?_
      refine ww_getr G fs_X_155 hj5 d_X_lookAt_59 ?_
      refine ww_aload_n 1 G d_X_lookAt_62 rfl rfl ?_
      refine ww_getf G fs_X_152 hj5 d_X_lookAt_63 h (fun v63 h => ?_)
      refine ww_csI (As := [_, _]) G E cs_X_203 (fun o q h => c_X_sumOf_20 j5 v63 hj5 _ _ _ h) rfl rfl (Nat.le_of_ble_eq_true rfl) d_X_lookAt_66 (by decide) h (fun v66 s66 h => ?_)
      refine ww_aload_n 1 G d_X_lookAt_69 rfl rfl ?_
      refine ww_getf G fs_X_207 hj5 d_X_lookAt_70 h (fun v70 h => ?_)
      refine ww_icmpeq (tgt := 85) G d_X_lookAt_73 (by decide) h (fun h => ?_) (fun h => ?_)
      · skip
        refine ww_aload_n 2 G d_X_lookAt_85 rfl rfl ?_
        refine ww_getr G fs_X_31 (by decide) d_X_lookAt_86 ?_
        refine ww_aload_n 1 G d_X_lookAt_89 rfl rfl ?_
        refine ww_getf G fs_X_185 hj5 d_X_lookAt_90 h (fun v90 h => ?_)
        refine ww_aaload G ar_12 (by decide) d_X_lookAt_93 h (fun j93 hj93 h => ?_)
        refine ww_aload_n 1 G d_X_lookAt_94 rfl rfl ?_
        refine ww_getf G fs_X_188 hj5 d_X_lookAt_95 h (fun v95 h => ?_)
        refine ww_iload_n 3 G d_X_lookAt_98 rfl rfl ?_
        refine ww_aload_n 1 G d_X_lookAt_99 rfl rfl ?_
        refine ww_getf G fs_X_152 hj5 d_X_lookAt_100 h (fun v100 h => ?_)
        refine ww_cvI (As := [_, _, _]) G E cs_X_264 hj93 (fun o q h => c_C_putInto j93 v95 x1 v100 hj93 _ _ _ h) rfl rfl (Nat.le_of_ble_eq_true rfl) d_X_lookAt_103 (by decide) h (fun v103 s103 h => ?_)
        refine ww_ifeq (tgt := 115) G d_X_lookAt_106 (by decide) h (fun h => ?_) (fun h => ?_)
        · skip
          exact ww_vret G E d_X_lookAt_115 h
        · skip
          refine ww_aload_n 0 G d_X_lookAt_109 rfl rfl ?_
          refine ww_iload_n 3 G d_X_lookAt_110 rfl rfl ?_
          refine ww_iconst (v := (1 : Int32)) G d_X_lookAt_111 ic_1 ?_
          refine ww_cvV (As := [_, _]) G E cs_X_261 hj15 (fun o q h => c_S_learnOf j15 x1 ((1 : Int32)) hj15 _ _ _ h) rfl rfl (Nat.le_of_ble_eq_true rfl) d_X_lookAt_112 (by decide) h (fun s112 h => ?_)
          exact ww_vret G E d_X_lookAt_115 h
      · skip
        refine ww_aload_n 0 G d_X_lookAt_76 rfl rfl ?_
        refine ww_iload_n 3 G d_X_lookAt_77 rfl rfl ?_
        refine ww_iconst (v := (2 : Int32)) G d_X_lookAt_78 ic_2 ?_
        refine ww_cvV (As := [_, _]) G E cs_X_261 hj15 (fun o q h => c_S_learnOf j15 x1 ((2 : Int32)) hj15 _ _ _ h) rfl rfl (Nat.le_of_ble_eq_true rfl) d_X_lookAt_79 (by decide) h (fun s79 h => ?_)
        refine ww_goto (tgt := 115) G d_X_lookAt_82 (by decide) ?_
        exact ww_vret G E d_X_lookAt_115 h
    · skip
      exact ww_vret G E d_X_lookAt_41 h
def lp_X_lookAtAllOf_2 (x1 : Int32) (k : Mem → RR) : Nat → Int32 → Mem → RR
  | 0, _, _ => none
  | n + 1, x2, s =>
    mm_gf s 0 0 7 fun v4 =>
    if v4 ≤ x2 then (
      k s
    ) else (
      mm_al 16 x2 fun j15 =>
      mm_gf s 19 j15 1 fun v16 =>
      if ¬ v16 = x1 then (
        lp_X_lookAtAllOf_2 x1 k n (x2 + (1 : Int32)) s
      ) else (
        mm_cV (f_X_lookAt x2 s) fun s25 =>
        lp_X_lookAtAllOf_2 x1 k n (x2 + (1 : Int32)) s25
      )
    )
set_option maxRecDepth 100000 in
set_option maxHeartbeats 4000000 in
theorem lp_X_lookAtAllOf_2_ok {K : KK} {Γ : Cx} {o : Oc} {q : Mem} (x1 : Int32)  (k : Mem → RR) (G : Good K Γ b_X_lookAtAllOf "VillageMail" 3 5 109) (E : Ends K Γ none o q)
    (Kx : ∀  (s : Mem), k s = some (o, q) → WW K Γ 0 s 34 [] []) :
    ∀ (n : Nat) (x2 : Int32) (s : Mem), lp_X_lookAtAllOf_2 x1 k n x2 s = some (o, q) → WW K Γ 0 s 2 [(0, .ref (aa K 0 0)), (1, .int x1), (2, .int x2)] [] := by
  intro n
  induction n with
  | zero => intro _ _ h; exact nomatch h
  | succ n ih =>
    intro x2 s h
    unfold lp_X_lookAtAllOf_2 at h
    refine ww_iload_n 2 G d_X_lookAtAllOf_2 rfl rfl ?_
    refine ww_aload_n 0 G d_X_lookAtAllOf_3 rfl rfl ?_
    refine ww_getf G fs_X_171 (by decide) d_X_lookAtAllOf_4 h (fun v4 h => ?_)
    refine ww_icmpge (tgt := 34) G d_X_lookAtAllOf_7 (by decide) h (fun h => ?_) (fun h => ?_)
    · skip
      refine ww_sub [] rfl ?_
      exact Kx  _ h
    · skip
      refine ww_aload_n 0 G d_X_lookAtAllOf_10 rfl rfl ?_
      refine ww_getr G fs_X_38 (by decide) d_X_lookAtAllOf_11 ?_
      refine ww_iload_n 2 G d_X_lookAtAllOf_14 rfl rfl ?_
      refine ww_aaload G ar_18 (by decide) d_X_lookAtAllOf_15 h (fun j15 hj15 h => ?_)
      refine ww_getf G fs_X_185 hj15 d_X_lookAtAllOf_16 h (fun v16 h => ?_)
      refine ww_iload_n 1 G d_X_lookAtAllOf_19 rfl rfl ?_
      refine ww_icmpne (tgt := 28) G d_X_lookAtAllOf_20 (by decide) h (fun h => ?_) (fun h => ?_)
      · skip
        refine ww_iinc 2 (L' := [(2, _), (0, _), (1, _)]) G d_X_lookAtAllOf_28 rfl ic_1 (by decide) rfl ?_
        refine ww_goto (tgt := 2) G d_X_lookAtAllOf_31 (by decide) ?_
        refine ww_sub [1, 2, 0] rfl ?_
        exact ih _ _ h
      · skip
        refine ww_aload_n 0 G d_X_lookAtAllOf_23 rfl rfl ?_
        refine ww_iload_n 2 G d_X_lookAtAllOf_24 rfl rfl ?_
        refine ww_cvV (As := [_]) G E cs_X_214 (by decide) (fun o q h => c_X_lookAt x2 _ _ _ h) rfl rfl (Nat.le_of_ble_eq_true rfl) d_X_lookAtAllOf_25 (by decide) h (fun s25 h => ?_)
        refine ww_iinc 2 (L' := [(2, _), (0, _), (1, _)]) G d_X_lookAtAllOf_28 rfl ic_1 (by decide) rfl ?_
        refine ww_goto (tgt := 2) G d_X_lookAtAllOf_31 (by decide) ?_
        refine ww_sub [1, 2, 0] rfl ?_
        exact ih _ _ h
def f_X_lookAtAllOf (x1 : Int32) (s : Mem) : RR :=
  mm_lp (fun kk => lp_X_lookAtAllOf_2 x1 kk FU ((0 : Int32)) s) fun s2 =>
  mm_rv s2
set_option maxRecDepth 100000 in
set_option maxHeartbeats 4000000 in
theorem c_X_lookAtAllOf {l : Launch} {K : KK} (x1 : Int32)  (s : Mem) (o : Oc) (q : Mem) (h : f_X_lookAtAllOf x1 s = some (o, q)) : Ct l K y_X_lookAtAllOf b_X_lookAtAllOf 3 none 5 109 [.ref (aa K 0 0), .int x1] s o q := by
  refine Ct_of (own := "VillageMail") (L := [(0, _), (1, _)]) (by decide +kernel) rfl (Nat.le_of_ble_eq_true rfl) rfl (fun Γ G E => ?_)
  unfold f_X_lookAtAllOf at h
  refine ww_iconst (v := (0 : Int32)) G d_X_lookAtAllOf_0 ic_0 ?_
  refine ww_istore_n (L' := [(2, _), (0, _), (1, _)]) G d_X_lookAtAllOf_1 rfl (by decide) rfl ?_
  refine ww_sub [1, 2, 0] rfl ?_
  refine lp_X_lookAtAllOf_2_ok x1 _ G E (fun s2 h => ?_) FU _ _ h
  exact ww_vret G E d_X_lookAtAllOf_34 h
def f_X_household (x1 : Int32) (x2 : Int32) (x3 : Int32) (s : Mem) : RR :=
  mm_cI (f_X_isBox x1 x2 s) fun v2 s2 =>
  mm_jn (fun (y23 : Int32) s23 =>
    mm_tV (f_X_demand y23 s23) fun s23 =>
    mm_al 8 x1 fun j31 =>
    mm_al 3 x2 fun j36 =>
    mm_pf s23 16 ((3 * j31 + j36)) 3 x3 fun s38 =>
    mm_cV (f_X_lookAtAllOf x1 s38) fun s43 =>
    mm_rv s43
  ) (fun r23 =>
  if v2 = 0 then (
    r23 ((0 : Int32)) s2
  ) else (
    mm_cI (f_X_isWithin x3 ((201 : Int32)) s2) fun v12 s12 =>
    if v12 = 0 then (
      r23 ((0 : Int32)) s12
    ) else (
      r23 ((1 : Int32)) s12
    )
  ))
set_option maxRecDepth 100000 in
set_option maxHeartbeats 4000000 in
theorem c_X_household {l : Launch} {K : KK} (x1 : Int32) (x2 : Int32) (x3 : Int32)  (s : Mem) (o : Oc) (q : Mem) (h : f_X_household x1 x2 x3 s = some (o, q)) : Ct l K y_X_household b_X_household 4 none 7 131 [.ref (aa K 0 0), .int x1, .int x2, .int x3] s o q := by
  refine Ct_of (own := "VillageMail") (L := [(0, _), (1, _), (2, _), (3, _)]) (by decide +kernel) rfl (Nat.le_of_ble_eq_true rfl) rfl (fun Γ G E => ?_)
  unfold f_X_household at h
  refine ww_iload_n 1 G d_X_household_0 rfl rfl ?_
  refine ww_iload_n 2 G d_X_household_1 rfl rfl ?_
  refine ww_csI (As := [_, _]) G E cs_X_124 (fun o q h => c_X_isBox x1 x2 _ _ _ h) rfl rfl (Nat.le_of_ble_eq_true rfl) d_X_household_2 (by decide) h (fun v2 s2 h => ?_)
  refine ww_jn h (fun (y23 : Int32) (s23 : Mem) => WW K Γ 0 s23 23 [(0, .ref (aa K 0 0)), (1, .int x1), (2, .int x2), (3, .int x3)] [.int y23]) (fun y23 s23 h => ?_) (fun r23 J23 h => ?_)
  · skip
    refine ww_tsV (As := [_]) G E cs_X_78 (fun o q h => c_X_demand y23 _ _ _ h) rfl rfl (Nat.le_of_ble_eq_true rfl) d_X_household_23 (by decide) h (fun s23 h => ?_)
    refine ww_aload_n 0 G d_X_household_26 rfl rfl ?_
    refine ww_getr G fs_X_31 (by decide) d_X_household_27 ?_
    refine ww_iload_n 1 G d_X_household_30 rfl rfl ?_
    refine ww_aaload G ar_12 (by decide) d_X_household_31 h (fun j31 hj31 h => ?_)
    refine ww_getr G fs_X_127 hj31 d_X_household_32 ?_
    refine ww_iload_n 2 G d_X_household_35 rfl rfl ?_
    refine ww_aaload G ar_14 hj31 d_X_household_36 h (fun j36 hj36 h => ?_)
    refine ww_iload_n 3 G d_X_household_37 rfl rfl ?_
    refine ww_putf G fs_X_131 (show (3 * j31 + j36) < 24 by omega) d_X_household_38 h (fun s38 h => ?_)
    refine ww_aload_n 0 G d_X_household_41 rfl rfl ?_
    refine ww_iload_n 1 G d_X_household_42 rfl rfl ?_
    refine ww_cvV (As := [_]) G E cs_X_136 (by decide) (fun o q h => c_X_lookAtAllOf x1 _ _ _ h) rfl rfl (Nat.le_of_ble_eq_true rfl) d_X_household_43 (by decide) h (fun s43 h => ?_)
    exact ww_vret G E d_X_household_46 h
  refine ww_ifeq (tgt := 22) G d_X_household_5 (by decide) h (fun h => ?_) (fun h => ?_)
  · skip
    refine ww_iconst (v := (0 : Int32)) G d_X_household_22 ic_0 ?_
    exact J23 _ _ h
  · skip
    refine ww_iload_n 3 G d_X_household_8 rfl rfl ?_
    refine ww_sipush (v := (201 : Int32)) G d_X_household_9 is_201 ?_
    refine ww_csI (As := [_, _]) G E cs_X_74 (fun o q h => c_X_isWithin x3 ((201 : Int32)) _ _ _ h) rfl rfl (Nat.le_of_ble_eq_true rfl) d_X_household_12 (by decide) h (fun v12 s12 h => ?_)
    refine ww_ifeq (tgt := 22) G d_X_household_15 (by decide) h (fun h => ?_) (fun h => ?_)
    · skip
      refine ww_iconst (v := (0 : Int32)) G d_X_household_22 ic_0 ?_
      exact J23 _ _ h
    · skip
      refine ww_iconst (v := (1 : Int32)) G d_X_household_18 ic_1 ?_
      refine ww_goto (tgt := 23) G d_X_household_19 (by decide) ?_
      exact J23 _ _ h
def f_X_group (x1 : Int32) (x2 : Int32) (x3 : Int32) (s : Mem) : RR :=
  mm_cI (f_X_isBox x1 x3 s) fun v2 s2 =>
  mm_jn (fun (y21 : Int32) s21 =>
    mm_tV (f_X_demand y21 s21) fun s21 =>
    mm_al 8 x1 fun j29 =>
    mm_cI (f_C_toggle j29 x2 x3 s21) fun v32 s32 =>
    if v32 = 0 then (
      mm_rz v32 s32
    ) else (
      mm_cV (f_X_lookAtAllOf x1 s32) fun s44 =>
      mm_rz v32 s44
    )
  ) (fun r21 =>
  if v2 = 0 then (
    r21 ((0 : Int32)) s2
  ) else (
    mm_cI (f_X_isWithin x2 ((2 : Int32)) s2) fun v10 s10 =>
    if v10 = 0 then (
      r21 ((0 : Int32)) s10
    ) else (
      r21 ((1 : Int32)) s10
    )
  ))
set_option maxRecDepth 100000 in
set_option maxHeartbeats 4000000 in
theorem c_X_group {l : Launch} {K : KK} (x1 : Int32) (x2 : Int32) (x3 : Int32)  (s : Mem) (o : Oc) (q : Mem) (h : f_X_group x1 x2 x3 s = some (o, q)) : Ct l K y_X_group b_X_group 5 (some .boolean) 7 131 [.ref (aa K 0 0), .int x1, .int x2, .int x3] s o q := by
  refine Ct_of (own := "VillageMail") (L := [(0, _), (1, _), (2, _), (3, _)]) (by decide +kernel) rfl (Nat.le_of_ble_eq_true rfl) rfl (fun Γ G E => ?_)
  unfold f_X_group at h
  refine ww_iload_n 1 G d_X_group_0 rfl rfl ?_
  refine ww_iload_n 3 G d_X_group_1 rfl rfl ?_
  refine ww_csI (As := [_, _]) G E cs_X_124 (fun o q h => c_X_isBox x1 x3 _ _ _ h) rfl rfl (Nat.le_of_ble_eq_true rfl) d_X_group_2 (by decide) h (fun v2 s2 h => ?_)
  refine ww_jn h (fun (y21 : Int32) (s21 : Mem) => WW K Γ 0 s21 21 [(0, .ref (aa K 0 0)), (1, .int x1), (2, .int x2), (3, .int x3)] [.int y21]) (fun y21 s21 h => ?_) (fun r21 J21 h => ?_)
  · skip
    refine ww_tsV (As := [_]) G E cs_X_78 (fun o q h => c_X_demand y21 _ _ _ h) rfl rfl (Nat.le_of_ble_eq_true rfl) d_X_group_21 (by decide) h (fun s21 h => ?_)
    refine ww_aload_n 0 G d_X_group_24 rfl rfl ?_
    refine ww_getr G fs_X_31 (by decide) d_X_group_25 ?_
    refine ww_iload_n 1 G d_X_group_28 rfl rfl ?_
    refine ww_aaload G ar_12 (by decide) d_X_group_29 h (fun j29 hj29 h => ?_)
    refine ww_iload_n 2 G d_X_group_30 rfl rfl ?_
    refine ww_iload_n 3 G d_X_group_31 rfl rfl ?_
    refine ww_cvI (As := [_, _]) G E cs_X_139 hj29 (fun o q h => c_C_toggle j29 x2 x3 hj29 _ _ _ h) rfl rfl (Nat.le_of_ble_eq_true rfl) d_X_group_32 (by decide) h (fun v32 s32 h => ?_)
    refine ww_istore (L' := [(4, _), (0, _), (1, _), (2, _), (3, _)]) G d_X_group_35 (by decide) rfl ?_
    refine ww_iload 0 G d_X_group_37 rfl ?_
    refine ww_ifeq (tgt := 47) G d_X_group_39 (by decide) h (fun h => ?_) (fun h => ?_)
    · skip
      refine ww_iload 0 G d_X_group_47 rfl ?_
      exact ww_zret G E d_X_group_49 h
    · skip
      refine ww_aload_n 1 G d_X_group_42 rfl rfl ?_
      refine ww_iload_n 2 G d_X_group_43 rfl rfl ?_
      refine ww_cvV (As := [_]) G E cs_X_136 (by decide) (fun o q h => c_X_lookAtAllOf x1 _ _ _ h) rfl rfl (Nat.le_of_ble_eq_true rfl) d_X_group_44 (by decide) h (fun s44 h => ?_)
      refine ww_iload 0 G d_X_group_47 rfl ?_
      exact ww_zret G E d_X_group_49 h
  refine ww_ifeq (tgt := 20) G d_X_group_5 (by decide) h (fun h => ?_) (fun h => ?_)
  · skip
    refine ww_iconst (v := (0 : Int32)) G d_X_group_20 ic_0 ?_
    exact J21 _ _ h
  · skip
    refine ww_iload_n 2 G d_X_group_8 rfl rfl ?_
    refine ww_iconst (v := (2 : Int32)) G d_X_group_9 ic_2 ?_
    refine ww_csI (As := [_, _]) G E cs_X_74 (fun o q h => c_X_isWithin x2 ((2 : Int32)) _ _ _ h) rfl rfl (Nat.le_of_ble_eq_true rfl) d_X_group_10 (by decide) h (fun v10 s10 h => ?_)
    refine ww_ifeq (tgt := 20) G d_X_group_13 (by decide) h (fun h => ?_) (fun h => ?_)
    · skip
      refine ww_iconst (v := (0 : Int32)) G d_X_group_20 ic_0 ?_
      exact J21 _ _ h
    · skip
      refine ww_iconst (v := (1 : Int32)) G d_X_group_16 ic_1 ?_
      refine ww_goto (tgt := 21) G d_X_group_17 (by decide) ?_
      exact J21 _ _ h
def f_X_box (x1 : Int32) (x2 : Int32) (x3 : Int32) (s : Mem) : RR :=
  mm_cI (f_X_isBox x1 x2 s) fun v2 s2 =>
  mm_jn (fun (y21 : Int32) s21 =>
    mm_tV (f_X_demand y21 s21) fun s21 =>
    mm_al 8 x1 fun j29 =>
    mm_al 3 x2 fun j34 =>
    if ¬ x3 = 0 then (
      if ¬ x3 = ((1 : Int32)) then (
        mm_gf s21 16 ((3 * j29 + j34)) 3 fun v62 =>
        mm_ri v62 s21
      ) else (
        mm_gf s21 16 ((3 * j29 + j34)) 2 fun v54 =>
        mm_ri v54 s21
      )
    ) else (
      mm_gf s21 16 ((3 * j29 + j34)) 1 fun v43 =>
      mm_ri v43 s21
    )
  ) (fun r21 =>
  if v2 = 0 then (
    r21 ((0 : Int32)) s2
  ) else (
    mm_cI (f_X_isWithin x3 ((3 : Int32)) s2) fun v10 s10 =>
    if v10 = 0 then (
      r21 ((0 : Int32)) s10
    ) else (
      r21 ((1 : Int32)) s10
    )
  ))
set_option maxRecDepth 100000 in
set_option maxHeartbeats 4000000 in
theorem c_X_box {l : Launch} {K : KK} (x1 : Int32) (x2 : Int32) (x3 : Int32)  (s : Mem) (o : Oc) (q : Mem) (h : f_X_box x1 x2 x3 s = some (o, q)) : Ct l K y_X_box b_X_box 5 (some .int) 7 109 [.ref (aa K 0 0), .int x1, .int x2, .int x3] s o q := by
  refine Ct_of (own := "VillageMail") (L := [(0, _), (1, _), (2, _), (3, _)]) (by decide +kernel) rfl (Nat.le_of_ble_eq_true rfl) rfl (fun Γ G E => ?_)
  unfold f_X_box at h
  refine ww_iload_n 1 G d_X_box_0 rfl rfl ?_
  refine ww_iload_n 2 G d_X_box_1 rfl rfl ?_
  refine ww_csI (As := [_, _]) G E cs_X_124 (fun o q h => c_X_isBox x1 x2 _ _ _ h) rfl rfl (Nat.le_of_ble_eq_true rfl) d_X_box_2 (by decide) h (fun v2 s2 h => ?_)
  refine ww_jn h (fun (y21 : Int32) (s21 : Mem) => WW K Γ 0 s21 21 [(0, .ref (aa K 0 0)), (1, .int x1), (2, .int x2), (3, .int x3)] [.int y21]) (fun y21 s21 h => ?_) (fun r21 J21 h => ?_)
  · skip
    refine ww_tsV (As := [_]) G E cs_X_78 (fun o q h => c_X_demand y21 _ _ _ h) rfl rfl (Nat.le_of_ble_eq_true rfl) d_X_box_21 (by decide) h (fun s21 h => ?_)
    refine ww_aload_n 0 G d_X_box_24 rfl rfl ?_
    refine ww_getr G fs_X_31 (by decide) d_X_box_25 ?_
    refine ww_iload_n 1 G d_X_box_28 rfl rfl ?_
    refine ww_aaload G ar_12 (by decide) d_X_box_29 h (fun j29 hj29 h => ?_)
    refine ww_getr G fs_X_127 hj29 d_X_box_30 ?_
    refine ww_iload_n 2 G d_X_box_33 rfl rfl ?_
    refine ww_aaload G ar_14 hj29 d_X_box_34 h (fun j34 hj34 h => ?_)
    refine ww_astore (L' := [(4, _), (0, _), (1, _), (2, _), (3, _)]) G d_X_box_35 (by decide) rfl ?_
    refine ww_iload_n 4 G d_X_box_37 rfl rfl ?_
    refine ww_ifne (tgt := 47) G d_X_box_38 (by decide) h (fun h => ?_) (fun h => ?_)
    · skip
      refine ww_iload_n 4 G d_X_box_47 rfl rfl ?_
      refine ww_iconst (v := (1 : Int32)) G d_X_box_48 ic_1 ?_
      refine ww_icmpne (tgt := 60) G d_X_box_49 (by decide) h (fun h => ?_) (fun h => ?_)
      · skip
        refine ww_aload 0 G d_X_box_60 rfl ?_
        refine ww_getf G fs_X_131 (show (3 * j29 + j34) < 24 by omega) d_X_box_62 h (fun v62 h => ?_)
        exact ww_iret G E d_X_box_65 h
      · skip
        refine ww_aload 0 G d_X_box_52 rfl ?_
        refine ww_getf G fs_X_143 (show (3 * j29 + j34) < 24 by omega) d_X_box_54 h (fun v54 h => ?_)
        refine ww_goto (tgt := 65) G d_X_box_57 (by decide) ?_
        exact ww_iret G E d_X_box_65 h
    · skip
      refine ww_aload 0 G d_X_box_41 rfl ?_
      refine ww_getf G fs_X_142 (show (3 * j29 + j34) < 24 by omega) d_X_box_43 h (fun v43 h => ?_)
      exact ww_iret G E d_X_box_46 h
  refine ww_ifeq (tgt := 20) G d_X_box_5 (by decide) h (fun h => ?_) (fun h => ?_)
  · skip
    refine ww_iconst (v := (0 : Int32)) G d_X_box_20 ic_0 ?_
    exact J21 _ _ h
  · skip
    refine ww_iload_n 3 G d_X_box_8 rfl rfl ?_
    refine ww_iconst (v := (3 : Int32)) G d_X_box_9 ic_3 ?_
    refine ww_csI (As := [_, _]) G E cs_X_74 (fun o q h => c_X_isWithin x3 ((3 : Int32)) _ _ _ h) rfl rfl (Nat.le_of_ble_eq_true rfl) d_X_box_10 (by decide) h (fun v10 s10 h => ?_)
    refine ww_ifeq (tgt := 20) G d_X_box_13 (by decide) h (fun h => ?_) (fun h => ?_)
    · skip
      refine ww_iconst (v := (0 : Int32)) G d_X_box_20 ic_0 ?_
      exact J21 _ _ h
    · skip
      refine ww_iconst (v := (1 : Int32)) G d_X_box_16 ic_1 ?_
      refine ww_goto (tgt := 21) G d_X_box_17 (by decide) ?_
      exact J21 _ _ h
def f_X_demandIndex (x0 : Int32) (x1 : Int32) (s : Mem) : RR :=
  mm_cI (f_X_isWithin x0 x1 s) fun v2 s2 =>
  if ¬ v2 = 0 then (
    mm_rv s2
  ) else (
    mm_th 3 s2
  )
set_option maxRecDepth 100000 in
set_option maxHeartbeats 4000000 in
theorem c_X_demandIndex {l : Launch} {K : KK} (x0 : Int32) (x1 : Int32)  (s : Mem) (o : Oc) (q : Mem) (h : f_X_demandIndex x0 x1 s = some (o, q)) : Ct l K y_X_demandIndex b_X_demandIndex 2 none 6 89 [.int x0, .int x1] s o q := by
  refine Ct_of (own := "VillageMail") (L := [(0, _), (1, _)]) (by decide +kernel) rfl (Nat.le_of_ble_eq_true rfl) rfl (fun Γ G E => ?_)
  unfold f_X_demandIndex at h
  refine ww_iload_n 0 G d_X_demandIndex_0 rfl rfl ?_
  refine ww_iload_n 1 G d_X_demandIndex_1 rfl rfl ?_
  refine ww_csI (As := [_, _]) G E cs_X_74 (fun o q h => c_X_isWithin x0 x1 _ _ _ h) rfl rfl (Nat.le_of_ble_eq_true rfl) d_X_demandIndex_2 (by decide) h (fun v2 s2 h => ?_)
  refine ww_ifne (tgt := 16) G d_X_demandIndex_5 (by decide) h (fun h => ?_) (fun h => ?_)
  · skip
    exact ww_vret G E d_X_demandIndex_16 h
  · skip
    exact ww_thr G E xs_X_350 d_X_demandIndex_8 d_X_demandIndex_11 d_X_demandIndex_12 d_X_demandIndex_15 (by decide) (Nat.le_of_ble_eq_true rfl) h
def f_X_read (x1 : Int32) (x2 : Int32) (x3 : Int32) (x4 : Int32) (s : Mem) : RR :=
  mm_cI (f_X_isBox x1 x2 s) fun v2 s2 =>
  mm_tV (f_X_demand v2 s2) fun s5 =>
  mm_al 8 x1 fun j13 =>
  mm_al 3 x2 fun j18 =>
  mm_gf s5 16 ((3 * j13 + j18)) 1 fun v24 =>
  mm_tV (f_X_demandIndex x3 v24 s5) fun s27 =>
  mm_ld s27 17 ((3 * j13 + j18)) 16 x3 fun v40 =>
  mm_al 16 v40 fun j41 =>
  mm_gf s27 19 j41 6 fun v48 =>
  mm_tV (f_X_demandIndex x4 v48 s27) fun s51 =>
  mm_ldj s51 20 j41 4 (x4 / ((8 : Int32))) fun v64 =>
  mm_cI (f_X_byteAt v64 (mm_irem x4 ((8 : Int32))) s51) fun v70 s70 =>
  mm_ri v70 s70
set_option maxRecDepth 100000 in
set_option maxHeartbeats 4000000 in
theorem c_X_read {l : Launch} {K : KK} (x1 : Int32) (x2 : Int32) (x3 : Int32) (x4 : Int32)  (s : Mem) (o : Oc) (q : Mem) (h : f_X_read x1 x2 x3 x4 s = some (o, q)) : Ct l K y_X_read b_X_read 7 (some .int) 7 110 [.ref (aa K 0 0), .int x1, .int x2, .int x3, .int x4] s o q := by
  refine Ct_of (own := "VillageMail") (L := [(0, _), (1, _), (2, _), (3, _), (4, _)]) (by decide +kernel) rfl (Nat.le_of_ble_eq_true rfl) rfl (fun Γ G E => ?_)
  unfold f_X_read at h
  refine ww_iload_n 1 G d_X_read_0 rfl rfl ?_
  refine ww_iload_n 2 G d_X_read_1 rfl rfl ?_
  refine ww_csI (As := [_, _]) G E cs_X_124 (fun o q h => c_X_isBox x1 x2 _ _ _ h) rfl rfl (Nat.le_of_ble_eq_true rfl) d_X_read_2 (by decide) h (fun v2 s2 h => ?_)
  refine ww_tsV (As := [_]) G E cs_X_78 (fun o q h => c_X_demand v2 _ _ _ h) rfl rfl (Nat.le_of_ble_eq_true rfl) d_X_read_5 (by decide) h (fun s5 h => ?_)
  refine ww_aload_n 0 G d_X_read_8 rfl rfl ?_
  refine ww_getr G fs_X_31 (by decide) d_X_read_9 ?_
  refine ww_iload_n 1 G d_X_read_12 rfl rfl ?_
  refine ww_aaload G ar_12 (by decide) d_X_read_13 h (fun j13 hj13 h => ?_)
  refine ww_getr G fs_X_127 hj13 d_X_read_14 ?_
  refine ww_iload_n 2 G d_X_read_17 rfl rfl ?_
  refine ww_aaload G ar_14 hj13 d_X_read_18 h (fun j18 hj18 h => ?_)
  refine ww_astore (L' := [(5, _), (0, _), (1, _), (2, _), (3, _), (4, _)]) G d_X_read_19 (by decide) rfl ?_
  refine ww_iload_n 4 G d_X_read_21 rfl rfl ?_
  refine ww_aload 0 G d_X_read_22 rfl ?_
  refine ww_getf G fs_X_142 (show (3 * j13 + j18) < 24 by omega) d_X_read_24 h (fun v24 h => ?_)
  refine ww_tsV (As := [_, _]) G E cs_X_146 (fun o q h => c_X_demandIndex x3 v24 _ _ _ h) rfl rfl (Nat.le_of_ble_eq_true rfl) d_X_read_27 (by decide) h (fun s27 h => ?_)
  refine ww_aload_n 1 G d_X_read_30 rfl rfl ?_
  refine ww_getr G fs_X_38 (by decide) d_X_read_31 ?_
  refine ww_aload 0 G d_X_read_34 rfl ?_
  refine ww_getr G fs_X_150 (show (3 * j13 + j18) < 24 by omega) d_X_read_36 ?_
  refine ww_iload_n 4 G d_X_read_39 rfl rfl ?_
  refine ww_iaload G ar_17 (show (3 * j13 + j18) < 24 by omega) d_X_read_40 h (fun v40 h => ?_)
  refine ww_aaload G ar_18 (by decide) d_X_read_41 h (fun j41 hj41 h => ?_)
  refine ww_astore (L' := [(6, _), (5, _), (0, _), (1, _), (2, _), (3, _), (4, _)]) G d_X_read_42 (by decide) rfl ?_
  refine ww_iload 6 G d_X_read_44 rfl ?_
  refine ww_aload 0 G d_X_read_46 rfl ?_
  refine ww_getf G fs_X_152 hj41 d_X_read_48 h (fun v48 h => ?_)
  refine ww_tsV (As := [_, _]) G E cs_X_146 (fun o q h => c_X_demandIndex x4 v48 _ _ _ h) rfl rfl (Nat.le_of_ble_eq_true rfl) d_X_read_51 (by decide) h (fun s51 h => ?_)
  refine ww_aload 0 G d_X_read_54 rfl ?_
  refine ww_getr G fs_X_155 hj41 d_X_read_56 ?_
  refine ww_iload 6 G d_X_read_59 rfl ?_
  refine ww_bipush (v := (8 : Int32)) G d_X_read_61 ib_8 ?_
  refine ww_idiv G d_X_read_63 (by decide) ?_
  refine ww_laload G ar_20 hj41 d_X_read_64 h (fun v64 h => ?_)
  refine ww_iload 6 G d_X_read_65 rfl ?_
  refine ww_bipush (v := (8 : Int32)) G d_X_read_67 ib_8 ?_
  refine ww_irem G d_X_read_69 (by decide) ?_
  refine ww_csI (As := [_, _]) G E cs_X_158 (fun o q h => c_X_byteAt v64 (mm_irem x4 ((8 : Int32))) _ _ _ h) rfl rfl (Nat.le_of_ble_eq_true rfl) d_X_read_70 (by decide) h (fun v70 s70 h => ?_)
  exact ww_iret G E d_X_read_73 h
def f_X_remove (x1 : Int32) (x2 : Int32) (x3 : Int32) (s : Mem) : RR :=
  mm_cI (f_X_isBox x1 x2 s) fun v2 s2 =>
  mm_tV (f_X_demand v2 s2) fun s5 =>
  mm_al 8 x1 fun j13 =>
  mm_al 3 x2 fun j18 =>
  mm_gf s5 16 ((3 * j13 + j18)) 1 fun v24 =>
  mm_tV (f_X_demandIndex x3 v24 s5) fun s27 =>
  mm_ld s27 17 ((3 * j13 + j18)) 16 x3 fun v36 =>
  mm_al 16 v36 fun j48 =>
  mm_gf s27 19 j48 6 fun v49 =>
  mm_cV (f_B_takeOut ((3 * j13 + j18)) x3 v49 s27) fun s52 =>
  mm_cV (f_X_lookAtAllOf x1 s52) fun s57 =>
  mm_ri v36 s57
set_option maxRecDepth 100000 in
set_option maxHeartbeats 4000000 in
theorem c_X_remove {l : Launch} {K : KK} (x1 : Int32) (x2 : Int32) (x3 : Int32)  (s : Mem) (o : Oc) (q : Mem) (h : f_X_remove x1 x2 x3 s = some (o, q)) : Ct l K y_X_remove b_X_remove 6 (some .int) 7 131 [.ref (aa K 0 0), .int x1, .int x2, .int x3] s o q := by
  refine Ct_of (own := "VillageMail") (L := [(0, _), (1, _), (2, _), (3, _)]) (by decide +kernel) rfl (Nat.le_of_ble_eq_true rfl) rfl (fun Γ G E => ?_)
  unfold f_X_remove at h
  refine ww_iload_n 1 G d_X_remove_0 rfl rfl ?_
  refine ww_iload_n 2 G d_X_remove_1 rfl rfl ?_
  refine ww_csI (As := [_, _]) G E cs_X_124 (fun o q h => c_X_isBox x1 x2 _ _ _ h) rfl rfl (Nat.le_of_ble_eq_true rfl) d_X_remove_2 (by decide) h (fun v2 s2 h => ?_)
  refine ww_tsV (As := [_]) G E cs_X_78 (fun o q h => c_X_demand v2 _ _ _ h) rfl rfl (Nat.le_of_ble_eq_true rfl) d_X_remove_5 (by decide) h (fun s5 h => ?_)
  refine ww_aload_n 0 G d_X_remove_8 rfl rfl ?_
  refine ww_getr G fs_X_31 (by decide) d_X_remove_9 ?_
  refine ww_iload_n 1 G d_X_remove_12 rfl rfl ?_
  refine ww_aaload G ar_12 (by decide) d_X_remove_13 h (fun j13 hj13 h => ?_)
  refine ww_getr G fs_X_127 hj13 d_X_remove_14 ?_
  refine ww_iload_n 2 G d_X_remove_17 rfl rfl ?_
  refine ww_aaload G ar_14 hj13 d_X_remove_18 h (fun j18 hj18 h => ?_)
  refine ww_astore (L' := [(4, _), (0, _), (1, _), (2, _), (3, _)]) G d_X_remove_19 (by decide) rfl ?_
  refine ww_iload_n 4 G d_X_remove_21 rfl rfl ?_
  refine ww_aload 0 G d_X_remove_22 rfl ?_
  refine ww_getf G fs_X_142 (show (3 * j13 + j18) < 24 by omega) d_X_remove_24 h (fun v24 h => ?_)
  refine ww_tsV (As := [_, _]) G E cs_X_146 (fun o q h => c_X_demandIndex x3 v24 _ _ _ h) rfl rfl (Nat.le_of_ble_eq_true rfl) d_X_remove_27 (by decide) h (fun s27 h => ?_)
  refine ww_aload 0 G d_X_remove_30 rfl ?_
  refine ww_getr G fs_X_150 (show (3 * j13 + j18) < 24 by omega) d_X_remove_32 ?_
  refine ww_iload_n 4 G d_X_remove_35 rfl rfl ?_
  refine ww_iaload G ar_17 (show (3 * j13 + j18) < 24 by omega) d_X_remove_36 h (fun v36 h => ?_)
  refine ww_istore (L' := [(5, _), (4, _), (0, _), (1, _), (2, _), (3, _)]) G d_X_remove_37 (by decide) rfl ?_
  refine ww_aload 1 G d_X_remove_39 rfl ?_
  refine ww_iload_n 5 G d_X_remove_41 rfl rfl ?_
  refine ww_aload_n 2 G d_X_remove_42 rfl rfl ?_
  refine ww_getr G fs_X_38 (by decide) d_X_remove_43 ?_
  refine ww_iload 0 G d_X_remove_46 rfl ?_
  refine ww_aaload G ar_18 (by decide) d_X_remove_48 h (fun j48 hj48 h => ?_)
  refine ww_getf G fs_X_152 hj48 d_X_remove_49 h (fun v49 h => ?_)
  refine ww_cvV (As := [_, _]) G E cs_X_162 (show (3 * j13 + j18) < 24 by omega) (fun o q h => c_B_takeOut ((3 * j13 + j18)) x3 v49 (show (3 * j13 + j18) < 24 by omega) _ _ _ h) rfl rfl (Nat.le_of_ble_eq_true rfl) d_X_remove_52 (by decide) h (fun s52 h => ?_)
  refine ww_aload_n 2 G d_X_remove_55 rfl rfl ?_
  refine ww_iload_n 3 G d_X_remove_56 rfl rfl ?_
  refine ww_cvV (As := [_]) G E cs_X_136 (by decide) (fun o q h => c_X_lookAtAllOf x1 _ _ _ h) rfl rfl (Nat.le_of_ble_eq_true rfl) d_X_remove_57 (by decide) h (fun s57 h => ?_)
  refine ww_iload 0 G d_X_remove_60 rfl ?_
  exact ww_iret G E d_X_remove_62 h
def f_X_shifted (x0 : Int32) (x1 : Int32) (s : Mem) : RR :=
  mm_rj (mm_lshl (x0.toInt64 &&& ((255 : Int64))) (((8 : Int32)) * x1)) s
set_option maxRecDepth 100000 in
set_option maxHeartbeats 4000000 in
theorem c_X_shifted {l : Launch} {K : KK} (x0 : Int32) (x1 : Int32)  (s : Mem) (o : Oc) (q : Mem) (h : f_X_shifted x0 x1 s = some (o, q)) : Ct l K y_X_shifted b_X_shifted 2 (some .long) 0 0 [.int x0, .int x1] s o q := by
  refine Ct_of (own := "VillageMail") (L := [(0, _), (1, _)]) (by decide +kernel) rfl (Nat.le_of_ble_eq_true rfl) rfl (fun Γ G E => ?_)
  unfold f_X_shifted at h
  refine ww_iload_n 0 G d_X_shifted_0 rfl rfl ?_
  refine ww_i2l G d_X_shifted_1 ?_
  refine ww_ldc2 (v := (255 : Int64)) G d_X_shifted_2 kw_X_353 ?_
  refine ww_land G d_X_shifted_5 ?_
  refine ww_bipush (v := (8 : Int32)) G d_X_shifted_6 ib_8 ?_
  refine ww_iload_n 1 G d_X_shifted_8 rfl rfl ?_
  refine ww_imul G d_X_shifted_9 ?_
  refine ww_lshl G d_X_shifted_10 ?_
  exact ww_lret G E d_X_shifted_11 h
def f_X_key (x1 : Int32) (s : Mem) : RR :=
  mm_gf s 0 0 9 fun v1 =>
  if ¬ v1 = ((32 : Int32)) then (
    mm_gf s 0 0 9 fun v12 =>
    mm_ldj s 21 0 4 (v12 / ((8 : Int32))) fun v29 =>
    mm_gf s 0 0 9 fun v32 =>
    mm_cJ (f_X_shifted x1 (mm_irem v32 ((8 : Int32))) s) fun v38 s38 =>
    mm_stj s38 21 0 4 (v12 / ((8 : Int32))) (v29 ^^^ v38) fun s42 =>
    mm_gf s42 0 0 9 fun v45 =>
    mm_pf s42 0 0 9 (v45 + ((1 : Int32))) fun s50 =>
    mm_rz ((1 : Int32)) s50
  ) else (
    mm_rz ((0 : Int32)) s
  )
set_option maxRecDepth 100000 in
set_option maxHeartbeats 4000000 in
theorem c_X_key {l : Launch} {K : KK} (x1 : Int32)  (s : Mem) (o : Oc) (q : Mem) (h : f_X_key x1 s = some (o, q)) : Ct l K y_X_key b_X_key 3 (some .boolean) 1 21 [.ref (aa K 0 0), .int x1] s o q := by
  refine Ct_of (own := "VillageMail") (L := [(0, _), (1, _)]) (by decide +kernel) rfl (Nat.le_of_ble_eq_true rfl) rfl (fun Γ G E => ?_)
  unfold f_X_key at h
  refine ww_aload_n 0 G d_X_key_0 rfl rfl ?_
  refine ww_getf G fs_X_164 (by decide) d_X_key_1 h (fun v1 h => ?_)
  refine ww_bipush (v := (32 : Int32)) G d_X_key_4 ib_32 ?_
  refine ww_icmpne (tgt := 11) G d_X_key_6 (by decide) h (fun h => ?_) (fun h => ?_)
  · skip
    refine ww_aload_n 0 G d_X_key_11 rfl rfl ?_
    refine ww_getf G fs_X_164 (by decide) d_X_key_12 h (fun v12 h => ?_)
    refine ww_bipush (v := (8 : Int32)) G d_X_key_15 ib_8 ?_
    refine ww_idiv G d_X_key_17 (by decide) ?_
    refine ww_istore_n (L' := [(2, _), (0, _), (1, _)]) G d_X_key_18 rfl (by decide) rfl ?_
    refine ww_aload_n 1 G d_X_key_19 rfl rfl ?_
    refine ww_getr G fs_X_43 (by decide) d_X_key_20 ?_
    refine ww_iload_n 0 G d_X_key_23 rfl rfl ?_
    refine ww_aload_n 1 G d_X_key_24 rfl rfl ?_
    refine ww_getr G fs_X_43 (by decide) d_X_key_25 ?_
    refine ww_iload_n 0 G d_X_key_28 rfl rfl ?_
    refine ww_laload G ar_21 (by decide) d_X_key_29 h (fun v29 h => ?_)
    refine ww_iload_n 2 G d_X_key_30 rfl rfl ?_
    refine ww_aload_n 1 G d_X_key_31 rfl rfl ?_
    refine ww_getf G fs_X_164 (by decide) d_X_key_32 h (fun v32 h => ?_)
    refine ww_bipush (v := (8 : Int32)) G d_X_key_35 ib_8 ?_
    refine ww_irem G d_X_key_37 (by decide) ?_
    refine ww_csJ (As := [_, _]) G E cs_X_167 (fun o q h => c_X_shifted x1 (mm_irem v32 ((8 : Int32))) _ _ _ h) rfl rfl (Nat.le_of_ble_eq_true rfl) d_X_key_38 (by decide) h (fun v38 s38 h => ?_)
    refine ww_lxor G d_X_key_41 ?_
    refine ww_lastore G ar_21 (by decide) d_X_key_42 h (fun s42 h => ?_)
    refine ww_aload_n 1 G d_X_key_43 rfl rfl ?_
    refine ww_dup G d_X_key_44 rfl ?_
    refine ww_getf G fs_X_164 (by decide) d_X_key_45 h (fun v45 h => ?_)
    refine ww_iconst (v := (1 : Int32)) G d_X_key_48 ic_1 ?_
    refine ww_iadd G d_X_key_49 ?_
    refine ww_putf G fs_X_164 (by decide) d_X_key_50 h (fun s50 h => ?_)
    refine ww_iconst (v := (1 : Int32)) G d_X_key_53 ic_1 ?_
    exact ww_zret G E d_X_key_54 h
  · skip
    refine ww_iconst (v := (0 : Int32)) G d_X_key_9 ic_0 ?_
    exact ww_zret G E d_X_key_10 h
def lp_X_sumOf_21_4 (x1 : Int32) (k : Int32 → Mem → RR) : Nat → Int32 → Int32 → Mem → RR
  | 0, _, _, _ => none
  | n + 1, x2, x3, s =>
    if x1 ≤ x3 then (
      k x2 s
    ) else (
      mm_ldj s 21 0 4 (x3 / ((8 : Int32))) fun v22 =>
      mm_cI (f_X_byteAt v22 (mm_irem x3 ((8 : Int32))) s) fun v27 s27 =>
      lp_X_sumOf_21_4 x1 k n (((mm_ishl x2 ((5 : Int32))) ||| (mm_iushr x2 ((27 : Int32)))) ^^^ v27) (x3 + (1 : Int32)) s27
    )
set_option maxRecDepth 100000 in
set_option maxHeartbeats 4000000 in
theorem lp_X_sumOf_21_4_ok {K : KK} {Γ : Cx} {o : Oc} {q : Mem} (x1 : Int32)  (k : Int32 → Mem → RR) (G : Good K Γ b_X_sumOf "VillageMail" 4 1 22) (E : Ends K Γ (some .int) o q)
    (Kx : ∀ (x2 : Int32) (s : Mem), k x2 s = some (o, q) → WW K Γ 0 s 38 [(2, .int x2)] []) :
    ∀ (n : Nat) (x2 : Int32) (x3 : Int32) (s : Mem), lp_X_sumOf_21_4 x1 k n x2 x3 s = some (o, q) → WW K Γ 0 s 4 [(0, .ref (aa K 21 0)), (1, .int x1), (2, .int x2), (3, .int x3)] [] := by
  intro n
  induction n with
  | zero => intro _ _ _ h; exact nomatch h
  | succ n ih =>
    intro x2 x3 s h
    unfold lp_X_sumOf_21_4 at h
    refine ww_iload_n 3 G d_X_sumOf_4 rfl rfl ?_
    refine ww_iload_n 1 G d_X_sumOf_5 rfl rfl ?_
    refine ww_icmpge (tgt := 38) G d_X_sumOf_6 (by decide) h (fun h => ?_) (fun h => ?_)
    · skip
      refine ww_sub [2] rfl ?_
      exact Kx _ _ h
    · skip
      refine ww_iload_n 2 G d_X_sumOf_9 rfl rfl ?_
      refine ww_iconst (v := (5 : Int32)) G d_X_sumOf_10 ic_5 ?_
      refine ww_ishl G d_X_sumOf_11 ?_
      refine ww_iload_n 2 G d_X_sumOf_12 rfl rfl ?_
      refine ww_bipush (v := (27 : Int32)) G d_X_sumOf_13 ib_27 ?_
      refine ww_iushr G d_X_sumOf_15 ?_
      refine ww_ior G d_X_sumOf_16 ?_
      refine ww_aload_n 0 G d_X_sumOf_17 rfl rfl ?_
      refine ww_iload_n 3 G d_X_sumOf_18 rfl rfl ?_
      refine ww_bipush (v := (8 : Int32)) G d_X_sumOf_19 ib_8 ?_
      refine ww_idiv G d_X_sumOf_21 (by decide) ?_
      refine ww_laload G ar_21 (by decide) d_X_sumOf_22 h (fun v22 h => ?_)
      refine ww_iload_n 3 G d_X_sumOf_23 rfl rfl ?_
      refine ww_bipush (v := (8 : Int32)) G d_X_sumOf_24 ib_8 ?_
      refine ww_irem G d_X_sumOf_26 (by decide) ?_
      refine ww_csI (As := [_, _]) G E cs_X_158 (fun o q h => c_X_byteAt v22 (mm_irem x3 ((8 : Int32))) _ _ _ h) rfl rfl (Nat.le_of_ble_eq_true rfl) d_X_sumOf_27 (by decide) h (fun v27 s27 h => ?_)
      refine ww_ixor G d_X_sumOf_30 ?_
      refine ww_istore_n (L' := [(2, _), (0, _), (1, _), (3, _)]) G d_X_sumOf_31 rfl (by decide) rfl ?_
      refine ww_iinc 3 (L' := [(3, _), (2, _), (0, _), (1, _)]) G d_X_sumOf_32 rfl ic_1 (by decide) rfl ?_
      refine ww_goto (tgt := 4) G d_X_sumOf_35 (by decide) ?_
      refine ww_sub [2, 3, 1, 0] rfl ?_
      exact ih _ _ _ h
def f_X_sumOf_21 (x1 : Int32) (s : Mem) : RR :=
  mm_lp (fun kk => lp_X_sumOf_21_4 x1 kk FU ((0 : Int32)) ((0 : Int32)) s) fun x2_4 s4 =>
  mm_ri x2_4 s4
set_option maxRecDepth 100000 in
set_option maxHeartbeats 4000000 in
theorem c_X_sumOf_21 {l : Launch} {K : KK} (x1 : Int32)  (s : Mem) (o : Oc) (q : Mem) (h : f_X_sumOf_21 x1 s = some (o, q)) : Ct l K y_X_sumOf b_X_sumOf 4 (some .int) 1 22 [.ref (aa K 21 0), .int x1] s o q := by
  refine Ct_of (own := "VillageMail") (L := [(0, _), (1, _)]) (by decide +kernel) rfl (Nat.le_of_ble_eq_true rfl) rfl (fun Γ G E => ?_)
  unfold f_X_sumOf_21 at h
  refine ww_iconst (v := (0 : Int32)) G d_X_sumOf_0 ic_0 ?_
  refine ww_istore_n (L' := [(2, _), (0, _), (1, _)]) G d_X_sumOf_1 rfl (by decide) rfl ?_
  refine ww_iconst (v := (0 : Int32)) G d_X_sumOf_2 ic_0 ?_
  refine ww_istore_n (L' := [(3, _), (2, _), (0, _), (1, _)]) G d_X_sumOf_3 rfl (by decide) rfl ?_
  refine ww_sub [2, 3, 1, 0] rfl ?_
  refine lp_X_sumOf_21_4_ok x1 _ G E (fun x2_4 s4 h => ?_) FU _ _ _ h
  refine ww_iload_n 0 G d_X_sumOf_38 rfl rfl ?_
  exact ww_iret G E d_X_sumOf_39 h

def f_M_spoil (x1 : Int32) (x2 : Int32) (x3 : Int32) (x4 : Int32) (x5 : Int32) (s : Mem) : RR :=
  mm_cI (f_M_upTo x1 ((11 : Int32)) s) fun v3 s3 =>
  mm_jn (fun (y43 : Int32) s43 =>
    mm_jn (fun (y69 : Int32) s69 =>
      mm_jn (fun (y98 : Int32) s98 =>
        mm_pf s98 30 0 31 y98 fun s98 =>
        mm_gf s98 30 0 31 fun v102 =>
        if v102 = 0 then (
          mm_cI (f_M_at x1 x2 x3 s98) fun v115 s115 =>
          mm_ld s115 49 0 6144 ((((8 : Int32)) * v115) + x4) fun v131 =>
          mm_st s115 49 0 6144 ((((8 : Int32)) * v115) + x4) (v131 ^^^ (x5 &&& ((255 : Int32)))) fun s139 =>
          mm_ld s139 49 0 6144 ((((8 : Int32)) * v115) + x4) fun v146 =>
          mm_ri v146 s139
        ) else (
          mm_ri ((0 : Int32)) s98
        )
      ) (fun r98 =>
      if ¬ y69 = 0 then (
        mm_cI (f_M_at x1 x2 x3 s69) fun v86 s86 =>
        mm_ld s86 46 0 768 v86 fun v89 =>
        if ¬ v89 = 0 then (
          r98 ((0 : Int32)) s86
        ) else (
          r98 ((2 : Int32)) s86
        )
      ) else (
        r98 ((1 : Int32)) s69
      ))
    ) (fun r69 =>
    if y43 = 0 then (
      r69 y43 s43
    ) else (
      mm_ld s43 36 0 16 x2 fun v62 =>
      if ((((8 : Int32)) * x3) + x4) < v62 then (
        r69 y43 s43
      ) else (
        r69 ((0 : Int32)) s43
      )
    ))
  ) (fun r43 =>
  if v3 = 0 then (
    r43 ((0 : Int32)) s3
  ) else (
    mm_cI (f_M_isLetter x2 s3) fun v11 s11 =>
    if v11 = 0 then (
      r43 ((0 : Int32)) s11
    ) else (
      if x3 < 0 then (
        r43 ((0 : Int32)) s11
      ) else (
        if ((4 : Int32)) ≤ x3 then (
          r43 ((0 : Int32)) s11
        ) else (
          if x4 < 0 then (
            r43 ((0 : Int32)) s11
          ) else (
            if ((8 : Int32)) ≤ x4 then (
              r43 ((0 : Int32)) s11
            ) else (
              r43 ((1 : Int32)) s11
            )
          )
        )
      )
    )
  ))
set_option maxRecDepth 100000 in
set_option maxHeartbeats 4000000 in
theorem c_M_spoil {l : Launch} {K : KK} (x1 : Int32) (x2 : Int32) (x3 : Int32) (x4 : Int32) (x5 : Int32)  (s : Mem) (o : Oc) (q : Mem) (h : f_M_spoil x1 x2 x3 x4 x5 s = some (o, q)) : Ct l K y_M_spoil b_M_spoil 8 (some .int) 1 22 [.ref (aa K 30 0), .int x1, .int x2, .int x3, .int x4, .int x5] s o q := by
  refine Ct_of (own := "VillageMailModel") (L := [(0, _), (1, _), (2, _), (3, _), (4, _), (5, _)]) (by decide +kernel) rfl (Nat.le_of_ble_eq_true rfl) rfl (fun Γ G E => ?_)
  unfold f_M_spoil at h
  refine ww_iload_n 1 G d_M_spoil_0 rfl rfl ?_
  refine ww_bipush (v := (11 : Int32)) G d_M_spoil_1 ib_11 ?_
  refine ww_csI (As := [_, _]) G E cs_M_108 (fun o q h => c_M_upTo x1 ((11 : Int32)) _ _ _ h) rfl rfl (Nat.le_of_ble_eq_true rfl) d_M_spoil_3 (by decide) h (fun v3 s3 h => ?_)
  refine ww_jn h (fun (y43 : Int32) (s43 : Mem) => WW K Γ 0 s43 43 [(0, .ref (aa K 30 0)), (1, .int x1), (2, .int x2), (3, .int x3), (4, .int x4), (5, .int x5)] [.int y43]) (fun y43 s43 h => ?_) (fun r43 J43 h => ?_)
  · skip
    refine ww_istore (L' := [(6, _), (0, _), (1, _), (2, _), (3, _), (4, _), (5, _)]) G d_M_spoil_43 (by decide) rfl ?_
    refine ww_iload 0 G d_M_spoil_45 rfl ?_
    refine ww_jn h (fun (y69 : Int32) (s69 : Mem) => WW K Γ 0 s69 69 [(0, .ref (aa K 30 0)), (1, .int x1), (2, .int x2), (3, .int x3), (4, .int x4), (5, .int x5), (6, .int y69)] []) (fun y69 s69 h => ?_) (fun r69 J69 h => ?_)
    · skip
      refine ww_aload_n 0 G d_M_spoil_69 rfl rfl ?_
      refine ww_iload 6 G d_M_spoil_70 rfl ?_
      refine ww_jn h (fun (y98 : Int32) (s98 : Mem) => WW K Γ 0 s98 98 [(0, .ref (aa K 30 0)), (1, .int x1), (2, .int x2), (3, .int x3), (4, .int x4), (5, .int x5)] [.int y98, .ref (aa K 30 0)]) (fun y98 s98 h => ?_) (fun r98 J98 h => ?_)
      · skip
        refine ww_putf G fs_M_104 (by decide) d_M_spoil_98 h (fun s98 h => ?_)
        refine ww_aload_n 0 G d_M_spoil_101 rfl rfl ?_
        refine ww_getf G fs_M_104 (by decide) d_M_spoil_102 h (fun v102 h => ?_)
        refine ww_ifeq (tgt := 110) G d_M_spoil_105 (by decide) h (fun h => ?_) (fun h => ?_)
        · skip
          refine ww_bipush (v := (8 : Int32)) G d_M_spoil_110 ib_8 ?_
          refine ww_iload_n 1 G d_M_spoil_112 rfl rfl ?_
          refine ww_iload_n 2 G d_M_spoil_113 rfl rfl ?_
          refine ww_iload_n 3 G d_M_spoil_114 rfl rfl ?_
          refine ww_csI (As := [_, _, _]) G E cs_M_146 (fun o q h => c_M_at x1 x2 x3 _ _ _ h) rfl rfl (Nat.le_of_ble_eq_true rfl) d_M_spoil_115 (by decide) h (fun v115 s115 h => ?_)
          refine ww_imul G d_M_spoil_118 ?_
          refine ww_iload 4 G d_M_spoil_119 rfl ?_
          refine ww_iadd G d_M_spoil_121 ?_
          refine ww_istore (L' := [(7, _), (0, _), (1, _), (2, _), (3, _), (4, _), (5, _)]) G d_M_spoil_122 (by decide) rfl ?_
          refine ww_aload_n 1 G d_M_spoil_124 rfl rfl ?_
          refine ww_getr G fs_M_65 (by decide) d_M_spoil_125 ?_
          refine ww_iload 0 G d_M_spoil_128 rfl ?_
          refine ww_dup2 G d_M_spoil_130 rfl rfl ?_
          refine ww_iaload G ar_49 (by decide) d_M_spoil_131 h (fun v131 h => ?_)
          refine ww_iload 6 G d_M_spoil_132 rfl ?_
          refine ww_sipush (v := (255 : Int32)) G d_M_spoil_134 is_255 ?_
          refine ww_iand G d_M_spoil_137 ?_
          refine ww_ixor G d_M_spoil_138 ?_
          refine ww_iastore G ar_49 (by decide) d_M_spoil_139 h (fun s139 h => ?_)
          refine ww_aload_n 1 G d_M_spoil_140 rfl rfl ?_
          refine ww_getr G fs_M_65 (by decide) d_M_spoil_141 ?_
          refine ww_iload 0 G d_M_spoil_144 rfl ?_
          refine ww_iaload G ar_49 (by decide) d_M_spoil_146 h (fun v146 h => ?_)
          exact ww_iret G E d_M_spoil_147 h
        · skip
          refine ww_iconst (v := (0 : Int32)) G d_M_spoil_108 ic_0 ?_
          exact ww_iret G E d_M_spoil_109 h
      refine ww_ifne (tgt := 79) G d_M_spoil_72 (by decide) h (fun h => ?_) (fun h => ?_)
      · skip
        refine ww_aload_n 0 G d_M_spoil_79 rfl rfl ?_
        refine ww_getr G fs_M_56 (by decide) d_M_spoil_80 ?_
        refine ww_iload_n 1 G d_M_spoil_83 rfl rfl ?_
        refine ww_iload_n 2 G d_M_spoil_84 rfl rfl ?_
        refine ww_iload_n 3 G d_M_spoil_85 rfl rfl ?_
        refine ww_csI (As := [_, _, _]) G E cs_M_146 (fun o q h => c_M_at x1 x2 x3 _ _ _ h) rfl rfl (Nat.le_of_ble_eq_true rfl) d_M_spoil_86 (by decide) h (fun v86 s86 h => ?_)
        refine ww_baload G ar_46 (by decide) d_M_spoil_89 h (fun v89 h => ?_)
        refine ww_ifne (tgt := 97) G d_M_spoil_90 (by decide) h (fun h => ?_) (fun h => ?_)
        · skip
          refine ww_iconst (v := (0 : Int32)) G d_M_spoil_97 ic_0 ?_
          refine ww_sub [0, 1, 2, 3, 4, 5] rfl ?_
          exact J98 _ _ h
        · skip
          refine ww_iconst (v := (2 : Int32)) G d_M_spoil_93 ic_2 ?_
          refine ww_goto (tgt := 98) G d_M_spoil_94 (by decide) ?_
          refine ww_sub [0, 1, 2, 3, 4, 5] rfl ?_
          exact J98 _ _ h
      · skip
        refine ww_iconst (v := (1 : Int32)) G d_M_spoil_75 ic_1 ?_
        refine ww_goto (tgt := 98) G d_M_spoil_76 (by decide) ?_
        refine ww_sub [0, 1, 2, 3, 4, 5] rfl ?_
        exact J98 _ _ h
    refine ww_ifeq (tgt := 69) G d_M_spoil_47 (by decide) h (fun h => ?_) (fun h => ?_)
    · skip
      refine ww_sub [1, 2, 3, 4, 5, 6, 0] rfl ?_
      exact J69 _ _ h
    · skip
      refine ww_bipush (v := (8 : Int32)) G d_M_spoil_50 ib_8 ?_
      refine ww_iload_n 4 G d_M_spoil_52 rfl rfl ?_
      refine ww_imul G d_M_spoil_53 ?_
      refine ww_iload 5 G d_M_spoil_54 rfl ?_
      refine ww_iadd G d_M_spoil_56 ?_
      refine ww_aload_n 1 G d_M_spoil_57 rfl rfl ?_
      refine ww_getr G fs_M_25 (by decide) d_M_spoil_58 ?_
      refine ww_iload_n 3 G d_M_spoil_61 rfl rfl ?_
      refine ww_iaload G ar_36 (by decide) d_M_spoil_62 h (fun v62 h => ?_)
      refine ww_icmplt (tgt := 69) G d_M_spoil_63 (by decide) h (fun h => ?_) (fun h => ?_)
      · skip
        refine ww_sub [1, 2, 3, 4, 5, 6, 0] rfl ?_
        exact J69 _ _ h
      · skip
        refine ww_iconst (v := (0 : Int32)) G d_M_spoil_66 ic_0 ?_
        refine ww_istore (L' := [(6, _), (0, _), (1, _), (2, _), (3, _), (4, _), (5, _)]) G d_M_spoil_67 (by decide) rfl ?_
        refine ww_sub [1, 2, 3, 4, 5, 6, 0] rfl ?_
        exact J69 _ _ h
  refine ww_ifeq (tgt := 42) G d_M_spoil_6 (by decide) h (fun h => ?_) (fun h => ?_)
  · skip
    refine ww_iconst (v := (0 : Int32)) G d_M_spoil_42 ic_0 ?_
    exact J43 _ _ h
  · skip
    refine ww_aload_n 0 G d_M_spoil_9 rfl rfl ?_
    refine ww_iload_n 2 G d_M_spoil_10 rfl rfl ?_
    refine ww_cvI (As := [_]) G E cs_M_220 (by decide) (fun o q h => c_M_isLetter x2 _ _ _ h) rfl rfl (Nat.le_of_ble_eq_true rfl) d_M_spoil_11 (by decide) h (fun v11 s11 h => ?_)
    refine ww_ifeq (tgt := 42) G d_M_spoil_14 (by decide) h (fun h => ?_) (fun h => ?_)
    · skip
      refine ww_iconst (v := (0 : Int32)) G d_M_spoil_42 ic_0 ?_
      exact J43 _ _ h
    · skip
      refine ww_iload_n 3 G d_M_spoil_17 rfl rfl ?_
      refine ww_iflt (tgt := 42) G d_M_spoil_18 (by decide) h (fun h => ?_) (fun h => ?_)
      · skip
        refine ww_iconst (v := (0 : Int32)) G d_M_spoil_42 ic_0 ?_
        exact J43 _ _ h
      · skip
        refine ww_iload_n 3 G d_M_spoil_21 rfl rfl ?_
        refine ww_iconst (v := (4 : Int32)) G d_M_spoil_22 ic_4 ?_
        refine ww_icmpge (tgt := 42) G d_M_spoil_23 (by decide) h (fun h => ?_) (fun h => ?_)
        · skip
          refine ww_iconst (v := (0 : Int32)) G d_M_spoil_42 ic_0 ?_
          exact J43 _ _ h
        · skip
          refine ww_iload 4 G d_M_spoil_26 rfl ?_
          refine ww_iflt (tgt := 42) G d_M_spoil_28 (by decide) h (fun h => ?_) (fun h => ?_)
          · skip
            refine ww_iconst (v := (0 : Int32)) G d_M_spoil_42 ic_0 ?_
            exact J43 _ _ h
          · skip
            refine ww_iload 4 G d_M_spoil_31 rfl ?_
            refine ww_bipush (v := (8 : Int32)) G d_M_spoil_33 ib_8 ?_
            refine ww_icmpge (tgt := 42) G d_M_spoil_35 (by decide) h (fun h => ?_) (fun h => ?_)
            · skip
              refine ww_iconst (v := (0 : Int32)) G d_M_spoil_42 ic_0 ?_
              exact J43 _ _ h
            · skip
              refine ww_iconst (v := (1 : Int32)) G d_M_spoil_38 ic_1 ?_
              refine ww_goto (tgt := 43) G d_M_spoil_39 (by decide) ?_
              exact J43 _ _ h
def f_M_isBox (x0 : Int32) (x1 : Int32) (s : Mem) : RR :=
  mm_cI (f_M_isKiosk x0 s) fun v1 s1 =>
  if v1 = 0 then (
    mm_rz ((0 : Int32)) s1
  ) else (
    mm_cI (f_M_upTo x1 ((2 : Int32)) s1) fun v9 s9 =>
    if v9 = 0 then (
      mm_rz ((0 : Int32)) s9
    ) else (
      mm_rz ((1 : Int32)) s9
    )
  )
set_option maxRecDepth 100000 in
set_option maxHeartbeats 4000000 in
theorem c_M_isBox {l : Launch} {K : KK} (x0 : Int32) (x1 : Int32)  (s : Mem) (o : Oc) (q : Mem) (h : f_M_isBox x0 x1 s = some (o, q)) : Ct l K y_M_isBox b_M_isBox 2 (some .boolean) 2 41 [.int x0, .int x1] s o q := by
  refine Ct_of (own := "VillageMailModel") (L := [(0, _), (1, _)]) (by decide +kernel) rfl (Nat.le_of_ble_eq_true rfl) rfl (fun Γ G E => ?_)
  unfold f_M_isBox at h
  refine ww_iload_n 0 G d_M_isBox_0 rfl rfl ?_
  refine ww_csI (As := [_]) G E cs_M_119 (fun o q h => c_M_isKiosk x0 _ _ _ h) rfl rfl (Nat.le_of_ble_eq_true rfl) d_M_isBox_1 (by decide) h (fun v1 s1 h => ?_)
  refine ww_ifeq (tgt := 19) G d_M_isBox_4 (by decide) h (fun h => ?_) (fun h => ?_)
  · skip
    refine ww_iconst (v := (0 : Int32)) G d_M_isBox_19 ic_0 ?_
    exact ww_zret G E d_M_isBox_20 h
  · skip
    refine ww_iload_n 1 G d_M_isBox_7 rfl rfl ?_
    refine ww_iconst (v := (2 : Int32)) G d_M_isBox_8 ic_2 ?_
    refine ww_csI (As := [_, _]) G E cs_M_108 (fun o q h => c_M_upTo x1 ((2 : Int32)) _ _ _ h) rfl rfl (Nat.le_of_ble_eq_true rfl) d_M_isBox_9 (by decide) h (fun v9 s9 h => ?_)
    refine ww_ifeq (tgt := 19) G d_M_isBox_12 (by decide) h (fun h => ?_) (fun h => ?_)
    · skip
      refine ww_iconst (v := (0 : Int32)) G d_M_isBox_19 ic_0 ?_
      exact ww_zret G E d_M_isBox_20 h
    · skip
      refine ww_iconst (v := (1 : Int32)) G d_M_isBox_15 ic_1 ?_
      refine ww_goto (tgt := 20) G d_M_isBox_16 (by decide) ?_
      exact ww_zret G E d_M_isBox_20 h
def f_M_box (x1 : Int32) (x2 : Int32) (x3 : Int32) (s : Mem) : RR :=
  mm_cI (f_M_isBox x1 x2 s) fun v3 s3 =>
  mm_jn (fun (y22 : Int32) s22 =>
    mm_pf s22 30 0 31 y22 fun s22 =>
    mm_gf s22 30 0 31 fun v26 =>
    if v26 = 0 then (
      if ¬ x3 = 0 then (
        if ¬ x3 = ((1 : Int32)) then (
          mm_ld s22 53 0 24 ((((3 : Int32)) * x1) + x2) fun v75 =>
          mm_ri v75 s22
        ) else (
          mm_cI (f_M_bytesIn ((((3 : Int32)) * x1) + x2) s22) fun v63 s63 =>
          mm_ri v63 s63
        )
      ) else (
        mm_ld s22 54 0 24 ((((3 : Int32)) * x1) + x2) fun v51 =>
        mm_ri v51 s22
      )
    ) else (
      mm_ri ((0 : Int32)) s22
    )
  ) (fun r22 =>
  if v3 = 0 then (
    r22 ((1 : Int32)) s3
  ) else (
    mm_cI (f_M_upTo x3 ((2 : Int32)) s3) fun v11 s11 =>
    if v11 = 0 then (
      r22 ((1 : Int32)) s11
    ) else (
      r22 ((0 : Int32)) s11
    )
  ))
set_option maxRecDepth 100000 in
set_option maxHeartbeats 4000000 in
theorem c_M_box {l : Launch} {K : KK} (x1 : Int32) (x2 : Int32) (x3 : Int32)  (s : Mem) (o : Oc) (q : Mem) (h : f_M_box x1 x2 x3 s = some (o, q)) : Ct l K y_M_box b_M_box 5 (some .int) 3 62 [.ref (aa K 30 0), .int x1, .int x2, .int x3] s o q := by
  refine Ct_of (own := "VillageMailModel") (L := [(0, _), (1, _), (2, _), (3, _)]) (by decide +kernel) rfl (Nat.le_of_ble_eq_true rfl) rfl (fun Γ G E => ?_)
  unfold f_M_box at h
  refine ww_aload_n 0 G d_M_box_0 rfl rfl ?_
  refine ww_iload_n 1 G d_M_box_1 rfl rfl ?_
  refine ww_iload_n 2 G d_M_box_2 rfl rfl ?_
  refine ww_csI (As := [_, _]) G E cs_M_223 (fun o q h => c_M_isBox x1 x2 _ _ _ h) rfl rfl (Nat.le_of_ble_eq_true rfl) d_M_box_3 (by decide) h (fun v3 s3 h => ?_)
  refine ww_jn h (fun (y22 : Int32) (s22 : Mem) => WW K Γ 0 s22 22 [(0, .ref (aa K 30 0)), (1, .int x1), (2, .int x2), (3, .int x3)] [.int y22, .ref (aa K 30 0)]) (fun y22 s22 h => ?_) (fun r22 J22 h => ?_)
  · skip
    refine ww_putf G fs_M_104 (by decide) d_M_box_22 h (fun s22 h => ?_)
    refine ww_aload_n 0 G d_M_box_25 rfl rfl ?_
    refine ww_getf G fs_M_104 (by decide) d_M_box_26 h (fun v26 h => ?_)
    refine ww_ifeq (tgt := 34) G d_M_box_29 (by decide) h (fun h => ?_) (fun h => ?_)
    · skip
      refine ww_iconst (v := (3 : Int32)) G d_M_box_34 ic_3 ?_
      refine ww_iload_n 1 G d_M_box_35 rfl rfl ?_
      refine ww_imul G d_M_box_36 ?_
      refine ww_iload_n 2 G d_M_box_37 rfl rfl ?_
      refine ww_iadd G d_M_box_38 ?_
      refine ww_istore (L' := [(4, _), (0, _), (1, _), (2, _), (3, _)]) G d_M_box_39 (by decide) rfl ?_
      refine ww_iload_n 4 G d_M_box_41 rfl rfl ?_
      refine ww_ifne (tgt := 55) G d_M_box_42 (by decide) h (fun h => ?_) (fun h => ?_)
      · skip
        refine ww_iload_n 4 G d_M_box_55 rfl rfl ?_
        refine ww_iconst (v := (1 : Int32)) G d_M_box_56 ic_1 ?_
        refine ww_icmpne (tgt := 69) G d_M_box_57 (by decide) h (fun h => ?_) (fun h => ?_)
        · skip
          refine ww_aload_n 1 G d_M_box_69 rfl rfl ?_
          refine ww_getr G fs_M_77 (by decide) d_M_box_70 ?_
          refine ww_iload 0 G d_M_box_73 rfl ?_
          refine ww_iaload G ar_53 (by decide) d_M_box_75 h (fun v75 h => ?_)
          exact ww_iret G E d_M_box_76 h
        · skip
          refine ww_aload_n 1 G d_M_box_60 rfl rfl ?_
          refine ww_iload 0 G d_M_box_61 rfl ?_
          refine ww_cvI (As := [_]) G E cs_M_170 (by decide) (fun o q h => c_M_bytesIn ((((3 : Int32)) * x1) + x2) _ _ _ h) rfl rfl (Nat.le_of_ble_eq_true rfl) d_M_box_63 (by decide) h (fun v63 s63 h => ?_)
          refine ww_goto (tgt := 76) G d_M_box_66 (by decide) ?_
          exact ww_iret G E d_M_box_76 h
      · skip
        refine ww_aload_n 1 G d_M_box_45 rfl rfl ?_
        refine ww_getr G fs_M_80 (by decide) d_M_box_46 ?_
        refine ww_iload 0 G d_M_box_49 rfl ?_
        refine ww_iaload G ar_54 (by decide) d_M_box_51 h (fun v51 h => ?_)
        refine ww_goto (tgt := 76) G d_M_box_52 (by decide) ?_
        exact ww_iret G E d_M_box_76 h
    · skip
      refine ww_iconst (v := (0 : Int32)) G d_M_box_32 ic_0 ?_
      exact ww_iret G E d_M_box_33 h
  refine ww_ifeq (tgt := 21) G d_M_box_6 (by decide) h (fun h => ?_) (fun h => ?_)
  · skip
    refine ww_iconst (v := (1 : Int32)) G d_M_box_21 ic_1 ?_
    exact J22 _ _ h
  · skip
    refine ww_iload_n 3 G d_M_box_9 rfl rfl ?_
    refine ww_iconst (v := (2 : Int32)) G d_M_box_10 ic_2 ?_
    refine ww_csI (As := [_, _]) G E cs_M_108 (fun o q h => c_M_upTo x3 ((2 : Int32)) _ _ _ h) rfl rfl (Nat.le_of_ble_eq_true rfl) d_M_box_11 (by decide) h (fun v11 s11 h => ?_)
    refine ww_ifeq (tgt := 21) G d_M_box_14 (by decide) h (fun h => ?_) (fun h => ?_)
    · skip
      refine ww_iconst (v := (1 : Int32)) G d_M_box_21 ic_1 ?_
      exact J22 _ _ h
    · skip
      refine ww_iconst (v := (0 : Int32)) G d_M_box_17 ic_0 ?_
      refine ww_goto (tgt := 22) G d_M_box_18 (by decide) ?_
      exact J22 _ _ h
def f_M_read (x1 : Int32) (x2 : Int32) (x3 : Int32) (x4 : Int32) (s : Mem) : RR :=
  mm_cI (f_M_isBox x1 x2 s) fun v10 s10 =>
  mm_jn (fun (y67 : Int32) s67 =>
    mm_pf s67 30 0 31 y67 fun s67 =>
    mm_gf s67 30 0 31 fun v71 =>
    if v71 = 0 then (
      mm_ld s67 55 0 384 ((((16 : Int32)) * ((((3 : Int32)) * x1) + x2)) + x3) fun v98 =>
      mm_ld s67 45 0 512 ((((32 : Int32)) * v98) + x4) fun v103 =>
      mm_ri v103 s67
    ) else (
      mm_ri ((0 : Int32)) s67
    )
  ) (fun r67 =>
  if ¬ v10 = 0 then (
    if x3 < 0 then (
      r67 ((2 : Int32)) s10
    ) else (
      mm_ld s10 54 0 24 ((((3 : Int32)) * x1) + x2) fun v31 =>
      if v31 ≤ x3 then (
        r67 ((2 : Int32)) s10
      ) else (
        if x4 < 0 then (
          r67 ((2 : Int32)) s10
        ) else (
          mm_ld s10 55 0 384 ((((16 : Int32)) * ((((3 : Int32)) * x1) + x2)) + x3) fun v57 =>
          mm_ld s10 36 0 16 v57 fun v58 =>
          if x4 < v58 then (
            r67 ((0 : Int32)) s10
          ) else (
            r67 ((2 : Int32)) s10
          )
        )
      )
    )
  ) else (
    r67 ((1 : Int32)) s10
  ))
set_option maxRecDepth 100000 in
set_option maxHeartbeats 4000000 in
theorem c_M_read {l : Launch} {K : KK} (x1 : Int32) (x2 : Int32) (x3 : Int32) (x4 : Int32)  (s : Mem) (o : Oc) (q : Mem) (h : f_M_read x1 x2 x3 x4 s = some (o, q)) : Ct l K y_M_read b_M_read 6 (some .int) 3 62 [.ref (aa K 30 0), .int x1, .int x2, .int x3, .int x4] s o q := by
  refine Ct_of (own := "VillageMailModel") (L := [(0, _), (1, _), (2, _), (3, _), (4, _)]) (by decide +kernel) rfl (Nat.le_of_ble_eq_true rfl) rfl (fun Γ G E => ?_)
  unfold f_M_read at h
  refine ww_iconst (v := (3 : Int32)) G d_M_read_0 ic_3 ?_
  refine ww_iload_n 1 G d_M_read_1 rfl rfl ?_
  refine ww_imul G d_M_read_2 ?_
  refine ww_iload_n 2 G d_M_read_3 rfl rfl ?_
  refine ww_iadd G d_M_read_4 ?_
  refine ww_istore (L' := [(5, _), (0, _), (1, _), (2, _), (3, _), (4, _)]) G d_M_read_5 (by decide) rfl ?_
  refine ww_aload_n 1 G d_M_read_7 rfl rfl ?_
  refine ww_iload_n 2 G d_M_read_8 rfl rfl ?_
  refine ww_iload_n 3 G d_M_read_9 rfl rfl ?_
  refine ww_csI (As := [_, _]) G E cs_M_223 (fun o q h => c_M_isBox x1 x2 _ _ _ h) rfl rfl (Nat.le_of_ble_eq_true rfl) d_M_read_10 (by decide) h (fun v10 s10 h => ?_)
  refine ww_jn h (fun (y67 : Int32) (s67 : Mem) => WW K Γ 0 s67 67 [(0, .ref (aa K 30 0)), (3, .int x3), (4, .int x4), (5, .int ((((3 : Int32)) * x1) + x2))] [.int y67, .ref (aa K 30 0)]) (fun y67 s67 h => ?_) (fun r67 J67 h => ?_)
  · skip
    refine ww_putf G fs_M_104 (by decide) d_M_read_67 h (fun s67 h => ?_)
    refine ww_aload_n 0 G d_M_read_70 rfl rfl ?_
    refine ww_getf G fs_M_104 (by decide) d_M_read_71 h (fun v71 h => ?_)
    refine ww_ifeq (tgt := 81) G d_M_read_74 (by decide) h (fun h => ?_) (fun h => ?_)
    · skip
      refine ww_aload_n 0 G d_M_read_81 rfl rfl ?_
      refine ww_getr G fs_M_53 (by decide) d_M_read_82 ?_
      refine ww_bipush (v := (32 : Int32)) G d_M_read_85 ib_32 ?_
      refine ww_aload_n 0 G d_M_read_87 rfl rfl ?_
      refine ww_getr G fs_M_83 (by decide) d_M_read_88 ?_
      refine ww_bipush (v := (16 : Int32)) G d_M_read_91 ib_16 ?_
      refine ww_iload 3 G d_M_read_93 rfl ?_
      refine ww_imul G d_M_read_95 ?_
      refine ww_iload_n 1 G d_M_read_96 rfl rfl ?_
      refine ww_iadd G d_M_read_97 ?_
      refine ww_iaload G ar_55 (by decide) d_M_read_98 h (fun v98 h => ?_)
      refine ww_imul G d_M_read_99 ?_
      refine ww_iload 2 G d_M_read_100 rfl ?_
      refine ww_iadd G d_M_read_102 ?_
      refine ww_iaload G ar_45 (by decide) d_M_read_103 h (fun v103 h => ?_)
      exact ww_iret G E d_M_read_104 h
    · skip
      refine ww_iconst (v := (0 : Int32)) G d_M_read_77 ic_0 ?_
      refine ww_goto (tgt := 104) G d_M_read_78 (by decide) ?_
      exact ww_iret G E d_M_read_104 h
  refine ww_ifne (tgt := 20) G d_M_read_13 (by decide) h (fun h => ?_) (fun h => ?_)
  · skip
    refine ww_iload_n 4 G d_M_read_20 rfl rfl ?_
    refine ww_iflt (tgt := 62) G d_M_read_21 (by decide) h (fun h => ?_) (fun h => ?_)
    · skip
      refine ww_iconst (v := (2 : Int32)) G d_M_read_62 ic_2 ?_
      refine ww_goto (tgt := 67) G d_M_read_63 (by decide) ?_
      refine ww_sub [1, 4, 5, 0] rfl ?_
      exact J67 _ _ h
    · skip
      refine ww_iload_n 4 G d_M_read_24 rfl rfl ?_
      refine ww_aload_n 1 G d_M_read_25 rfl rfl ?_
      refine ww_getr G fs_M_80 (by decide) d_M_read_26 ?_
      refine ww_iload 0 G d_M_read_29 rfl ?_
      refine ww_iaload G ar_54 (by decide) d_M_read_31 h (fun v31 h => ?_)
      refine ww_icmpge (tgt := 62) G d_M_read_32 (by decide) h (fun h => ?_) (fun h => ?_)
      · skip
        refine ww_iconst (v := (2 : Int32)) G d_M_read_62 ic_2 ?_
        refine ww_goto (tgt := 67) G d_M_read_63 (by decide) ?_
        refine ww_sub [1, 4, 5, 0] rfl ?_
        exact J67 _ _ h
      · skip
        refine ww_iload 5 G d_M_read_35 rfl ?_
        refine ww_iflt (tgt := 62) G d_M_read_37 (by decide) h (fun h => ?_) (fun h => ?_)
        · skip
          refine ww_iconst (v := (2 : Int32)) G d_M_read_62 ic_2 ?_
          refine ww_goto (tgt := 67) G d_M_read_63 (by decide) ?_
          refine ww_sub [1, 4, 5, 0] rfl ?_
          exact J67 _ _ h
        · skip
          refine ww_iload 5 G d_M_read_40 rfl ?_
          refine ww_aload_n 1 G d_M_read_42 rfl rfl ?_
          refine ww_getr G fs_M_25 (by decide) d_M_read_43 ?_
          refine ww_aload_n 1 G d_M_read_46 rfl rfl ?_
          refine ww_getr G fs_M_83 (by decide) d_M_read_47 ?_
          refine ww_bipush (v := (16 : Int32)) G d_M_read_50 ib_16 ?_
          refine ww_iload 0 G d_M_read_52 rfl ?_
          refine ww_imul G d_M_read_54 ?_
          refine ww_iload_n 4 G d_M_read_55 rfl rfl ?_
          refine ww_iadd G d_M_read_56 ?_
          refine ww_iaload G ar_55 (by decide) d_M_read_57 h (fun v57 h => ?_)
          refine ww_iaload G ar_36 (by decide) d_M_read_58 h (fun v58 h => ?_)
          refine ww_icmplt (tgt := 66) G d_M_read_59 (by decide) h (fun h => ?_) (fun h => ?_)
          · skip
            refine ww_iconst (v := (0 : Int32)) G d_M_read_66 ic_0 ?_
            refine ww_sub [1, 4, 5, 0] rfl ?_
            exact J67 _ _ h
          · skip
            refine ww_iconst (v := (2 : Int32)) G d_M_read_62 ic_2 ?_
            refine ww_goto (tgt := 67) G d_M_read_63 (by decide) ?_
            refine ww_sub [1, 4, 5, 0] rfl ?_
            exact J67 _ _ h
  · skip
    refine ww_iconst (v := (1 : Int32)) G d_M_read_16 ic_1 ?_
    refine ww_goto (tgt := 67) G d_M_read_17 (by decide) ?_
    refine ww_sub [1, 4, 5, 0] rfl ?_
    exact J67 _ _ h
def lp_M_remove_80 (x1 : Int32) (x4 : Int32) (x5 : Int32) (k : Mem → RR) : Nat → Int32 → Mem → RR
  | 0, _, _ => none
  | n + 1, x6, s =>
    mm_ld s 54 0 24 x4 fun v88 =>
    if v88 ≤ x6 then (
      k s
    ) else (
      mm_ld s 55 0 384 (((((16 : Int32)) * x4) + x6) + ((1 : Int32))) fun v118 =>
      mm_st s 55 0 384 ((((16 : Int32)) * x4) + x6) v118 fun s119 =>
      lp_M_remove_80 x1 x4 x5 k n (x6 + (1 : Int32)) s119
    )
set_option maxRecDepth 100000 in
set_option maxHeartbeats 4000000 in
theorem lp_M_remove_80_ok {K : KK} {Γ : Cx} {o : Oc} {q : Mem} (x1 : Int32) (x4 : Int32) (x5 : Int32)  (k : Mem → RR) (G : Good K Γ b_M_remove "VillageMailModel" 7 4 94) (E : Ends K Γ (some .int) o q)
    (Kx : ∀  (s : Mem), k s = some (o, q) → WW K Γ 0 s 126 [(0, .ref (aa K 30 0)), (1, .int x1), (5, .int x5)] []) :
    ∀ (n : Nat) (x6 : Int32) (s : Mem), lp_M_remove_80 x1 x4 x5 k n x6 s = some (o, q) → WW K Γ 0 s 80 [(0, .ref (aa K 30 0)), (1, .int x1), (4, .int x4), (5, .int x5), (6, .int x6)] [] := by
  intro n
  induction n with
  | zero => intro _ _ h; exact nomatch h
  | succ n ih =>
    intro x6 s h
    unfold lp_M_remove_80 at h
    refine ww_iload 4 G d_M_remove_80 rfl ?_
    refine ww_aload_n 0 G d_M_remove_82 rfl rfl ?_
    refine ww_getr G fs_M_80 (by decide) d_M_remove_83 ?_
    refine ww_iload 2 G d_M_remove_86 rfl ?_
    refine ww_iaload G ar_54 (by decide) d_M_remove_88 h (fun v88 h => ?_)
    refine ww_icmpge (tgt := 126) G d_M_remove_89 (by decide) h (fun h => ?_) (fun h => ?_)
    · skip
      refine ww_sub [0, 1, 3] rfl ?_
      exact Kx  _ h
    · skip
      refine ww_aload_n 0 G d_M_remove_92 rfl rfl ?_
      refine ww_getr G fs_M_83 (by decide) d_M_remove_93 ?_
      refine ww_bipush (v := (16 : Int32)) G d_M_remove_96 ib_16 ?_
      refine ww_iload 2 G d_M_remove_98 rfl ?_
      refine ww_imul G d_M_remove_100 ?_
      refine ww_iload 4 G d_M_remove_101 rfl ?_
      refine ww_iadd G d_M_remove_103 ?_
      refine ww_aload_n 0 G d_M_remove_104 rfl rfl ?_
      refine ww_getr G fs_M_83 (by decide) d_M_remove_105 ?_
      refine ww_bipush (v := (16 : Int32)) G d_M_remove_108 ib_16 ?_
      refine ww_iload 2 G d_M_remove_110 rfl ?_
      refine ww_imul G d_M_remove_112 ?_
      refine ww_iload 4 G d_M_remove_113 rfl ?_
      refine ww_iadd G d_M_remove_115 ?_
      refine ww_iconst (v := (1 : Int32)) G d_M_remove_116 ic_1 ?_
      refine ww_iadd G d_M_remove_117 ?_
      refine ww_iaload G ar_55 (by decide) d_M_remove_118 h (fun v118 h => ?_)
      refine ww_iastore G ar_55 (by decide) d_M_remove_119 h (fun s119 h => ?_)
      refine ww_iinc 4 (L' := [(6, _), (0, _), (1, _), (4, _), (5, _)]) G d_M_remove_120 rfl ic_1 (by decide) rfl ?_
      refine ww_goto (tgt := 80) G d_M_remove_123 (by decide) ?_
      refine ww_sub [1, 2, 3, 4, 0] rfl ?_
      exact ih _ _ h
def f_M_remove (x1 : Int32) (x2 : Int32) (x3 : Int32) (s : Mem) : RR :=
  mm_cI (f_M_isBox x1 x2 s) fun v10 s10 =>
  mm_jn (fun (y40 : Int32) s40 =>
    mm_pf s40 30 0 31 y40 fun s40 =>
    mm_gf s40 30 0 31 fun v44 =>
    if v44 = 0 then (
      mm_ld s40 55 0 384 ((((16 : Int32)) * ((((3 : Int32)) * x1) + x2)) + x3) fun v63 =>
      mm_ld s40 54 0 24 ((((3 : Int32)) * x1) + x2) fun v73 =>
      mm_st s40 54 0 24 ((((3 : Int32)) * x1) + x2) (v73 - ((1 : Int32))) fun s76 =>
      mm_lp (fun kk => lp_M_remove_80 x1 ((((3 : Int32)) * x1) + x2) v63 kk FU x3 s76) fun s80 =>
      mm_cV (f_M_lookAll x1 s80) fun s128 =>
      mm_ri v63 s128
    ) else (
      mm_ri ((0 : Int32)) s40
    )
  ) (fun r40 =>
  if ¬ v10 = 0 then (
    if x3 < 0 then (
      r40 ((2 : Int32)) s10
    ) else (
      mm_ld s10 54 0 24 ((((3 : Int32)) * x1) + x2) fun v31 =>
      if x3 < v31 then (
        r40 ((0 : Int32)) s10
      ) else (
        r40 ((2 : Int32)) s10
      )
    )
  ) else (
    r40 ((1 : Int32)) s10
  ))
set_option maxRecDepth 100000 in
set_option maxHeartbeats 4000000 in
theorem c_M_remove {l : Launch} {K : KK} (x1 : Int32) (x2 : Int32) (x3 : Int32)  (s : Mem) (o : Oc) (q : Mem) (h : f_M_remove x1 x2 x3 s = some (o, q)) : Ct l K y_M_remove b_M_remove 7 (some .int) 4 94 [.ref (aa K 30 0), .int x1, .int x2, .int x3] s o q := by
  refine Ct_of (own := "VillageMailModel") (L := [(0, _), (1, _), (2, _), (3, _)]) (by decide +kernel) rfl (Nat.le_of_ble_eq_true rfl) rfl (fun Γ G E => ?_)
  unfold f_M_remove at h
  refine ww_iconst (v := (3 : Int32)) G d_M_remove_0 ic_3 ?_
  refine ww_iload_n 1 G d_M_remove_1 rfl rfl ?_
  refine ww_imul G d_M_remove_2 ?_
  refine ww_iload_n 2 G d_M_remove_3 rfl rfl ?_
  refine ww_iadd G d_M_remove_4 ?_
  refine ww_istore (L' := [(4, _), (0, _), (1, _), (2, _), (3, _)]) G d_M_remove_5 (by decide) rfl ?_
  refine ww_aload_n 1 G d_M_remove_7 rfl rfl ?_
  refine ww_iload_n 2 G d_M_remove_8 rfl rfl ?_
  refine ww_iload_n 3 G d_M_remove_9 rfl rfl ?_
  refine ww_csI (As := [_, _]) G E cs_M_223 (fun o q h => c_M_isBox x1 x2 _ _ _ h) rfl rfl (Nat.le_of_ble_eq_true rfl) d_M_remove_10 (by decide) h (fun v10 s10 h => ?_)
  refine ww_jn h (fun (y40 : Int32) (s40 : Mem) => WW K Γ 0 s40 40 [(0, .ref (aa K 30 0)), (1, .int x1), (3, .int x3), (4, .int ((((3 : Int32)) * x1) + x2))] [.int y40, .ref (aa K 30 0)]) (fun y40 s40 h => ?_) (fun r40 J40 h => ?_)
  · skip
    refine ww_putf G fs_M_104 (by decide) d_M_remove_40 h (fun s40 h => ?_)
    refine ww_aload_n 0 G d_M_remove_43 rfl rfl ?_
    refine ww_getf G fs_M_104 (by decide) d_M_remove_44 h (fun v44 h => ?_)
    refine ww_ifeq (tgt := 52) G d_M_remove_47 (by decide) h (fun h => ?_) (fun h => ?_)
    · skip
      refine ww_aload_n 0 G d_M_remove_52 rfl rfl ?_
      refine ww_getr G fs_M_83 (by decide) d_M_remove_53 ?_
      refine ww_bipush (v := (16 : Int32)) G d_M_remove_56 ib_16 ?_
      refine ww_iload 3 G d_M_remove_58 rfl ?_
      refine ww_imul G d_M_remove_60 ?_
      refine ww_iload_n 2 G d_M_remove_61 rfl rfl ?_
      refine ww_iadd G d_M_remove_62 ?_
      refine ww_iaload G ar_55 (by decide) d_M_remove_63 h (fun v63 h => ?_)
      refine ww_istore (L' := [(5, _), (0, _), (1, _), (3, _), (4, _)]) G d_M_remove_64 (by decide) rfl ?_
      refine ww_aload_n 1 G d_M_remove_66 rfl rfl ?_
      refine ww_getr G fs_M_80 (by decide) d_M_remove_67 ?_
      refine ww_iload 4 G d_M_remove_70 rfl ?_
      refine ww_dup2 G d_M_remove_72 rfl rfl ?_
      refine ww_iaload G ar_54 (by decide) d_M_remove_73 h (fun v73 h => ?_)
      refine ww_iconst (v := (1 : Int32)) G d_M_remove_74 ic_1 ?_
      refine ww_isub G d_M_remove_75 ?_
      refine ww_iastore G ar_54 (by decide) d_M_remove_76 h (fun s76 h => ?_)
      refine ww_iload_n 3 G d_M_remove_77 rfl rfl ?_
      refine ww_istore (L' := [(6, _), (5, _), (0, _), (1, _), (3, _), (4, _)]) G d_M_remove_78 (by decide) rfl ?_
      refine ww_sub [2, 3, 5, 1, 0] rfl ?_
      refine lp_M_remove_80_ok x1 ((((3 : Int32)) * x1) + x2) v63 _ G E (fun s80 h => ?_) FU _ _ h
      refine ww_aload_n 0 G d_M_remove_126 rfl rfl ?_
      refine ww_iload_n 1 G d_M_remove_127 rfl rfl ?_
      refine ww_cvV (As := [_]) G E cs_M_177 (by decide) (fun o q h => c_M_lookAll x1 _ _ _ h) rfl rfl (Nat.le_of_ble_eq_true rfl) d_M_remove_128 (by decide) h (fun s128 h => ?_)
      refine ww_iload 2 G d_M_remove_131 rfl ?_
      exact ww_iret G E d_M_remove_133 h
    · skip
      refine ww_iconst (v := (0 : Int32)) G d_M_remove_50 ic_0 ?_
      exact ww_iret G E d_M_remove_51 h
  refine ww_ifne (tgt := 20) G d_M_remove_13 (by decide) h (fun h => ?_) (fun h => ?_)
  · skip
    refine ww_iload_n 4 G d_M_remove_20 rfl rfl ?_
    refine ww_iflt (tgt := 35) G d_M_remove_21 (by decide) h (fun h => ?_) (fun h => ?_)
    · skip
      refine ww_iconst (v := (2 : Int32)) G d_M_remove_35 ic_2 ?_
      refine ww_goto (tgt := 40) G d_M_remove_36 (by decide) ?_
      refine ww_sub [1, 2, 4, 0] rfl ?_
      exact J40 _ _ h
    · skip
      refine ww_iload_n 4 G d_M_remove_24 rfl rfl ?_
      refine ww_aload_n 1 G d_M_remove_25 rfl rfl ?_
      refine ww_getr G fs_M_80 (by decide) d_M_remove_26 ?_
      refine ww_iload 0 G d_M_remove_29 rfl ?_
      refine ww_iaload G ar_54 (by decide) d_M_remove_31 h (fun v31 h => ?_)
      refine ww_icmplt (tgt := 39) G d_M_remove_32 (by decide) h (fun h => ?_) (fun h => ?_)
      · skip
        refine ww_iconst (v := (0 : Int32)) G d_M_remove_39 ic_0 ?_
        refine ww_sub [1, 2, 4, 0] rfl ?_
        exact J40 _ _ h
      · skip
        refine ww_iconst (v := (2 : Int32)) G d_M_remove_35 ic_2 ?_
        refine ww_goto (tgt := 40) G d_M_remove_36 (by decide) ?_
        refine ww_sub [1, 2, 4, 0] rfl ?_
        exact J40 _ _ h
  · skip
    refine ww_iconst (v := (1 : Int32)) G d_M_remove_16 ic_1 ?_
    refine ww_goto (tgt := 40) G d_M_remove_17 (by decide) ?_
    refine ww_sub [1, 2, 4, 0] rfl ?_
    exact J40 _ _ h

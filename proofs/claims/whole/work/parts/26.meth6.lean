def f_X_movePiece (x0 : Int32) (i1 : Nat) (i2 : Nat) (s : Mem) : RR :=
  mm_cI (f_S_has i2 x0 s) fun v2 s2 =>
  if v2 = 0 then (
    mm_cI (f_S_room i2 s2) fun v11 s11 =>
    if ¬ v11 = 0 then (
      mm_ld s11 8 i1 64 x0 fun v34 =>
      mm_ldj s11 10 i1 64 x0 fun v45 =>
      mm_cV (f_S_take i2 x0 v45 (v34 + ((1 : Int32))) s11) fun s47 =>
      mm_cV (f_S_learnHops i1 x0 (v34 + ((1 : Int32))) s47) fun s53 =>
      mm_rz ((1 : Int32)) s53
    ) else (
      mm_gf s11 7 i2 8 fun v19 =>
      mm_pf s11 7 i2 8 (v19 + ((1 : Int32))) fun s24 =>
      mm_rz ((0 : Int32)) s24
    )
  ) else (
    mm_rz ((0 : Int32)) s2
  )
set_option maxRecDepth 100000 in
set_option maxHeartbeats 4000000 in
theorem c_X_movePiece {l : Launch} {K : KK} (x0 : Int32) (i1 : Nat) (i2 : Nat) (h1 : i1 < 12) (h2 : i2 < 12) (s : Mem) (o : Oc) (q : Mem) (h : f_X_movePiece x0 i1 i2 s = some (o, q)) : Ct l K y_X_movePiece b_X_movePiece 4 (some .boolean) 3 64 [.int x0, .ref (aa K 7 i1), .ref (aa K 7 i2)] s o q := by
  refine Ct_of (own := "VillageMail") (L := [(0, _), (1, _), (2, _)]) (by decide +kernel) rfl (Nat.le_of_ble_eq_true rfl) rfl (fun Γ G E => ?_)
  unfold f_X_movePiece at h
  refine ww_aload_n 2 G d_X_movePiece_0 rfl rfl ?_
  refine ww_iload_n 0 G d_X_movePiece_1 rfl rfl ?_
  refine ww_cvI (As := [_]) G E cs_X_316 h2 (fun o q h => c_S_has i2 x0 h2 _ _ _ h) rfl rfl (Nat.le_of_ble_eq_true rfl) d_X_movePiece_2 (by decide) h (fun v2 s2 h => ?_)
  refine ww_ifeq (tgt := 10) G d_X_movePiece_5 (by decide) h (fun h => ?_) (fun h => ?_)
  · skip
    refine ww_aload_n 2 G d_X_movePiece_10 rfl rfl ?_
    refine ww_cvI (As := []) G E cs_X_174 h2 (fun o q h => c_S_room i2 h2 _ _ _ h) rfl rfl (Nat.le_of_ble_eq_true rfl) d_X_movePiece_11 (by decide) h (fun v11 s11 h => ?_)
    refine ww_ifne (tgt := 29) G d_X_movePiece_14 (by decide) h (fun h => ?_) (fun h => ?_)
    · skip
      refine ww_aload_n 1 G d_X_movePiece_29 rfl rfl ?_
      refine ww_getr G fs_X_332 h1 d_X_movePiece_30 ?_
      refine ww_iload_n 0 G d_X_movePiece_33 rfl rfl ?_
      refine ww_iaload G ar_8 h1 d_X_movePiece_34 h (fun v34 h => ?_)
      refine ww_iconst (v := (1 : Int32)) G d_X_movePiece_35 ic_1 ?_
      refine ww_iadd G d_X_movePiece_36 ?_
      refine ww_istore_n (L' := [(3, _), (0, _), (1, _), (2, _)]) G d_X_movePiece_37 rfl (by decide) rfl ?_
      refine ww_aload_n 3 G d_X_movePiece_38 rfl rfl ?_
      refine ww_iload_n 1 G d_X_movePiece_39 rfl rfl ?_
      refine ww_aload_n 2 G d_X_movePiece_40 rfl rfl ?_
      refine ww_getr G fs_X_253 h1 d_X_movePiece_41 ?_
      refine ww_iload_n 1 G d_X_movePiece_44 rfl rfl ?_
      refine ww_laload G ar_10 h1 d_X_movePiece_45 h (fun v45 h => ?_)
      refine ww_iload_n 0 G d_X_movePiece_46 rfl rfl ?_
      refine ww_cvV (As := [_, _, _]) G E cs_X_217 h2 (fun o q h => c_S_take i2 x0 v45 (v34 + ((1 : Int32))) h2 _ _ _ h) rfl rfl (Nat.le_of_ble_eq_true rfl) d_X_movePiece_47 (by decide) h (fun s47 h => ?_)
      refine ww_aload_n 2 G d_X_movePiece_50 rfl rfl ?_
      refine ww_iload_n 1 G d_X_movePiece_51 rfl rfl ?_
      refine ww_iload_n 0 G d_X_movePiece_52 rfl rfl ?_
      refine ww_cvV (As := [_, _]) G E cs_X_303 h1 (fun o q h => c_S_learnHops i1 x0 (v34 + ((1 : Int32))) h1 _ _ _ h) rfl rfl (Nat.le_of_ble_eq_true rfl) d_X_movePiece_53 (by decide) h (fun s53 h => ?_)
      refine ww_iconst (v := (1 : Int32)) G d_X_movePiece_56 ic_1 ?_
      exact ww_zret G E d_X_movePiece_57 h
    · skip
      refine ww_aload_n 2 G d_X_movePiece_17 rfl rfl ?_
      refine ww_dup G d_X_movePiece_18 rfl ?_
      refine ww_getf G fs_X_329 h2 d_X_movePiece_19 h (fun v19 h => ?_)
      refine ww_iconst (v := (1 : Int32)) G d_X_movePiece_22 ic_1 ?_
      refine ww_iadd G d_X_movePiece_23 ?_
      refine ww_putf G fs_X_329 h2 d_X_movePiece_24 h (fun s24 h => ?_)
      refine ww_iconst (v := (0 : Int32)) G d_X_movePiece_27 ic_0 ?_
      exact ww_zret G E d_X_movePiece_28 h
  · skip
    refine ww_iconst (v := (0 : Int32)) G d_X_movePiece_8 ic_0 ?_
    exact ww_zret G E d_X_movePiece_9 h
def lp_X_moveOffered_6 (i1 : Nat) (x2 : Int32) (x3 : Int32) (x4 : Int32) (k : Int32 → Mem → RR) : Nat → Int32 → Int32 → Mem → RR
  | 0, _, _, _ => none
  | n + 1, x5, x6, s =>
    mm_gf s 26 i1 1 fun v9 =>
    if v9 ≤ x6 then (
      k x5 s
    ) else (
      if x4 ≤ x5 then (
        k x5 s
      ) else (
        mm_ld s 27 i1 24 x6 fun v28 =>
        mm_al 12 x2 fun j38 =>
        mm_al 12 x3 fun j44 =>
        mm_cI (f_X_movePiece v28 j38 j44 s) fun v45 s45 =>
        if v45 = 0 then (
          lp_X_moveOffered_6 i1 x2 x3 x4 k n x5 (x6 + (1 : Int32)) s45
        ) else (
          mm_pf s45 0 0 14 x2 fun s56 =>
          mm_pf s56 0 0 15 v28 fun s62 =>
          mm_al 16 (v28 / ((4 : Int32))) fun j73 =>
          mm_gf s62 19 j73 1 fun v74 =>
          if ¬ v74 = x3 then (
            lp_X_moveOffered_6 i1 x2 x3 x4 k n (x5 + (1 : Int32)) (x6 + (1 : Int32)) s62
          ) else (
            mm_cV (f_X_lookAt (v28 / ((4 : Int32))) s62) fun s86 =>
            lp_X_moveOffered_6 i1 x2 x3 x4 k n (x5 + (1 : Int32)) (x6 + (1 : Int32)) s86
          )
        )
      )
    )
set_option maxRecDepth 100000 in
set_option maxHeartbeats 4000000 in
theorem lp_X_moveOffered_6_ok {K : KK} {Γ : Cx} {o : Oc} {q : Mem} (i1 : Nat) (x2 : Int32) (x3 : Int32) (x4 : Int32) (h1 : i1 < 2) (k : Int32 → Mem → RR) (G : Good K Γ b_X_moveOffered "VillageMail" 8 5 109) (E : Ends K Γ (some .int) o q)
    (Kx : ∀ (x5 : Int32) (s : Mem), k x5 s = some (o, q) → WW K Γ 0 s 95 [(5, .int x5)] []) :
    ∀ (n : Nat) (x5 : Int32) (x6 : Int32) (s : Mem), lp_X_moveOffered_6 i1 x2 x3 x4 k n x5 x6 s = some (o, q) → WW K Γ 0 s 6 [(0, .ref (aa K 0 0)), (1, .ref (aa K 26 i1)), (2, .int x2), (3, .int x3), (4, .int x4), (5, .int x5), (6, .int x6)] [] := by
  intro n
  induction n with
  | zero => intro _ _ _ h; exact nomatch h
  | succ n ih =>
    intro x5 x6 s h
    unfold lp_X_moveOffered_6 at h
    refine ww_iload 6 G d_X_moveOffered_6 rfl ?_
    refine ww_aload_n 1 G d_X_moveOffered_8 rfl rfl ?_
    refine ww_getf G fs_X_312 h1 d_X_moveOffered_9 h (fun v9 h => ?_)
    refine ww_icmpge (tgt := 95) G d_X_moveOffered_12 (by decide) h (fun h => ?_) (fun h => ?_)
    · skip
      refine ww_sub [5] rfl ?_
      exact Kx _ _ h
    · skip
      refine ww_iload 5 G d_X_moveOffered_15 rfl ?_
      refine ww_iload 4 G d_X_moveOffered_17 rfl ?_
      refine ww_icmpge (tgt := 95) G d_X_moveOffered_19 (by decide) h (fun h => ?_) (fun h => ?_)
      · skip
        refine ww_sub [5] rfl ?_
        exact Kx _ _ h
      · skip
        refine ww_aload_n 1 G d_X_moveOffered_22 rfl rfl ?_
        refine ww_getr G fs_X_322 h1 d_X_moveOffered_23 ?_
        refine ww_iload 6 G d_X_moveOffered_26 rfl ?_
        refine ww_iaload G ar_27 h1 d_X_moveOffered_28 h (fun v28 h => ?_)
        refine ww_istore (L' := [(7, _), (0, _), (1, _), (2, _), (3, _), (4, _), (5, _), (6, _)]) G d_X_moveOffered_29 (by decide) rfl ?_
        refine ww_iload 0 G d_X_moveOffered_31 rfl ?_
        refine ww_aload_n 1 G d_X_moveOffered_33 rfl rfl ?_
        refine ww_getr G fs_X_22 (by decide) d_X_moveOffered_34 ?_
        refine ww_iload_n 3 G d_X_moveOffered_37 rfl rfl ?_
        refine ww_aaload G ar_6 (by decide) d_X_moveOffered_38 h (fun j38 hj38 h => ?_)
        refine ww_aload_n 1 G d_X_moveOffered_39 rfl rfl ?_
        refine ww_getr G fs_X_22 (by decide) d_X_moveOffered_40 ?_
        refine ww_iload_n 4 G d_X_moveOffered_43 rfl rfl ?_
        refine ww_aaload G ar_6 (by decide) d_X_moveOffered_44 h (fun j44 hj44 h => ?_)
        refine ww_csI (As := [_, _, _]) G E cs_X_325 (fun o q h => c_X_movePiece v28 j38 j44 hj38 hj44 _ _ _ h) rfl rfl (Nat.le_of_ble_eq_true rfl) d_X_moveOffered_45 (by decide) h (fun v45 s45 h => ?_)
        refine ww_ifeq (tgt := 89) G d_X_moveOffered_48 (by decide) h (fun h => ?_) (fun h => ?_)
        · skip
          refine ww_iinc 7 (L' := [(6, _), (7, _), (0, _), (1, _), (2, _), (3, _), (4, _), (5, _)]) G d_X_moveOffered_89 rfl ic_1 (by decide) rfl ?_
          refine ww_goto (tgt := 6) G d_X_moveOffered_92 (by decide) ?_
          refine ww_sub [2, 3, 4, 5, 6, 7, 0] rfl ?_
          exact ih _ _ _ h
        · skip
          refine ww_iinc 6 (L' := [(5, _), (7, _), (0, _), (1, _), (2, _), (3, _), (4, _), (6, _)]) G d_X_moveOffered_51 rfl ic_1 (by decide) rfl ?_
          refine ww_aload_n 2 G d_X_moveOffered_54 rfl rfl ?_
          refine ww_iload_n 4 G d_X_moveOffered_55 rfl rfl ?_
          refine ww_putf G fs_X_272 (by decide) d_X_moveOffered_56 h (fun s56 h => ?_)
          refine ww_aload_n 2 G d_X_moveOffered_59 rfl rfl ?_
          refine ww_iload 1 G d_X_moveOffered_60 rfl ?_
          refine ww_putf G fs_X_275 (by decide) d_X_moveOffered_62 h (fun s62 h => ?_)
          refine ww_aload_n 2 G d_X_moveOffered_65 rfl rfl ?_
          refine ww_getr G fs_X_38 (by decide) d_X_moveOffered_66 ?_
          refine ww_iload 1 G d_X_moveOffered_69 rfl ?_
          refine ww_iconst (v := (4 : Int32)) G d_X_moveOffered_71 ic_4 ?_
          refine ww_idiv G d_X_moveOffered_72 (by decide) ?_
          refine ww_aaload G ar_18 (by decide) d_X_moveOffered_73 h (fun j73 hj73 h => ?_)
          refine ww_getf G fs_X_185 hj73 d_X_moveOffered_74 h (fun v74 h => ?_)
          refine ww_iload_n 5 G d_X_moveOffered_77 rfl rfl ?_
          refine ww_icmpne (tgt := 89) G d_X_moveOffered_78 (by decide) h (fun h => ?_) (fun h => ?_)
          · skip
            refine ww_iinc 7 (L' := [(6, _), (5, _), (7, _), (0, _), (1, _), (2, _), (3, _), (4, _)]) G d_X_moveOffered_89 rfl ic_1 (by decide) rfl ?_
            refine ww_goto (tgt := 6) G d_X_moveOffered_92 (by decide) ?_
            refine ww_sub [3, 4, 5, 6, 7, 1, 0] rfl ?_
            exact ih _ _ _ h
          · skip
            refine ww_aload_n 2 G d_X_moveOffered_81 rfl rfl ?_
            refine ww_iload 1 G d_X_moveOffered_82 rfl ?_
            refine ww_iconst (v := (4 : Int32)) G d_X_moveOffered_84 ic_4 ?_
            refine ww_idiv G d_X_moveOffered_85 (by decide) ?_
            refine ww_cvV (As := [_]) G E cs_X_214 (by decide) (fun o q h => c_X_lookAt (v28 / ((4 : Int32))) _ _ _ h) rfl rfl (Nat.le_of_ble_eq_true rfl) d_X_moveOffered_86 (by decide) h (fun s86 h => ?_)
            refine ww_iinc 7 (L' := [(6, _), (5, _), (7, _), (0, _), (1, _), (2, _), (3, _), (4, _)]) G d_X_moveOffered_89 rfl ic_1 (by decide) rfl ?_
            refine ww_goto (tgt := 6) G d_X_moveOffered_92 (by decide) ?_
            refine ww_sub [3, 4, 5, 6, 7, 1, 0] rfl ?_
            exact ih _ _ _ h
def f_X_moveOffered (i1 : Nat) (x2 : Int32) (x3 : Int32) (x4 : Int32) (s : Mem) : RR :=
  mm_lp (fun kk => lp_X_moveOffered_6 i1 x2 x3 x4 kk FU ((0 : Int32)) ((0 : Int32)) s) fun x5_6 s6 =>
  mm_ri x5_6 s6
set_option maxRecDepth 100000 in
set_option maxHeartbeats 4000000 in
theorem c_X_moveOffered {l : Launch} {K : KK} (i1 : Nat) (x2 : Int32) (x3 : Int32) (x4 : Int32) (h1 : i1 < 2) (s : Mem) (o : Oc) (q : Mem) (h : f_X_moveOffered i1 x2 x3 x4 s = some (o, q)) : Ct l K y_X_moveOffered b_X_moveOffered 8 (some .int) 5 109 [.ref (aa K 0 0), .ref (aa K 26 i1), .int x2, .int x3, .int x4] s o q := by
  refine Ct_of (own := "VillageMail") (L := [(0, _), (1, _), (2, _), (3, _), (4, _)]) (by decide +kernel) rfl (Nat.le_of_ble_eq_true rfl) rfl (fun Γ G E => ?_)
  unfold f_X_moveOffered at h
  refine ww_iconst (v := (0 : Int32)) G d_X_moveOffered_0 ic_0 ?_
  refine ww_istore (L' := [(5, _), (0, _), (1, _), (2, _), (3, _), (4, _)]) G d_X_moveOffered_1 (by decide) rfl ?_
  refine ww_iconst (v := (0 : Int32)) G d_X_moveOffered_3 ic_0 ?_
  refine ww_istore (L' := [(6, _), (5, _), (0, _), (1, _), (2, _), (3, _), (4, _)]) G d_X_moveOffered_4 (by decide) rfl ?_
  refine ww_sub [2, 3, 4, 5, 6, 1, 0] rfl ?_
  refine lp_X_moveOffered_6_ok i1 x2 x3 x4 h1 _ G E (fun x5_6 s6 h => ?_) FU _ _ _ h
  refine ww_iload 0 G d_X_moveOffered_95 rfl ?_
  exact ww_iret G E d_X_moveOffered_97 h
def f_X_hold (x1 : Int32) (x2 : Int32) (x3 : Int32) (s : Mem) : RR :=
  mm_al 12 x1 fun j5 =>
  mm_al 12 x2 fun j11 =>
  mm_cV (f_X_shareTimetable j5 j11 s) fun s12 =>
  mm_al 12 x1 fun j21 =>
  mm_al 12 x2 fun j27 =>
  mm_cV (f_X_shareNews j21 j27 s12) fun s28 =>
  mm_cV (f_X_settleOffers x1 x2 s28) fun s34 =>
  mm_cI (f_X_moveOffered 0 x1 x2 x3 s34) fun v45 s45 =>
  mm_cI (f_X_moveOffered 1 x2 x1 x3 s45) fun v60 s60 =>
  mm_ri (v45 + v60) s60
set_option maxRecDepth 100000 in
set_option maxHeartbeats 4000000 in
theorem c_X_hold {l : Launch} {K : KK} (x1 : Int32) (x2 : Int32) (x3 : Int32)  (s : Mem) (o : Oc) (q : Mem) (h : f_X_hold x1 x2 x3 s = some (o, q)) : Ct l K y_X_hold b_X_hold 5 (some .int) 6 136 [.ref (aa K 0 0), .int x1, .int x2, .int x3] s o q := by
  refine Ct_of (own := "VillageMail") (L := [(0, _), (1, _), (2, _), (3, _)]) (by decide +kernel) rfl (Nat.le_of_ble_eq_true rfl) rfl (fun Γ G E => ?_)
  unfold f_X_hold at h
  refine ww_aload_n 0 G d_X_hold_0 rfl rfl ?_
  refine ww_getr G fs_X_22 (by decide) d_X_hold_1 ?_
  refine ww_iload_n 1 G d_X_hold_4 rfl rfl ?_
  refine ww_aaload G ar_6 (by decide) d_X_hold_5 h (fun j5 hj5 h => ?_)
  refine ww_aload_n 0 G d_X_hold_6 rfl rfl ?_
  refine ww_getr G fs_X_22 (by decide) d_X_hold_7 ?_
  refine ww_iload_n 2 G d_X_hold_10 rfl rfl ?_
  refine ww_aaload G ar_6 (by decide) d_X_hold_11 h (fun j11 hj11 h => ?_)
  refine ww_csV (As := [_, _]) G E cs_X_281 (fun o q h => c_X_shareTimetable j5 j11 hj5 hj11 _ _ _ h) rfl rfl (Nat.le_of_ble_eq_true rfl) d_X_hold_12 (by decide) h (fun s12 h => ?_)
  refine ww_aload_n 0 G d_X_hold_15 rfl rfl ?_
  refine ww_aload_n 0 G d_X_hold_16 rfl rfl ?_
  refine ww_getr G fs_X_22 (by decide) d_X_hold_17 ?_
  refine ww_iload_n 1 G d_X_hold_20 rfl rfl ?_
  refine ww_aaload G ar_6 (by decide) d_X_hold_21 h (fun j21 hj21 h => ?_)
  refine ww_aload_n 0 G d_X_hold_22 rfl rfl ?_
  refine ww_getr G fs_X_22 (by decide) d_X_hold_23 ?_
  refine ww_iload_n 2 G d_X_hold_26 rfl rfl ?_
  refine ww_aaload G ar_6 (by decide) d_X_hold_27 h (fun j27 hj27 h => ?_)
  refine ww_cvV (As := [_, _]) G E cs_X_285 (by decide) (fun o q h => c_X_shareNews j21 j27 hj21 hj27 _ _ _ h) rfl rfl (Nat.le_of_ble_eq_true rfl) d_X_hold_28 (by decide) h (fun s28 h => ?_)
  refine ww_aload_n 0 G d_X_hold_31 rfl rfl ?_
  refine ww_iload_n 1 G d_X_hold_32 rfl rfl ?_
  refine ww_iload_n 2 G d_X_hold_33 rfl rfl ?_
  refine ww_cvV (As := [_, _]) G E cs_X_288 (by decide) (fun o q h => c_X_settleOffers x1 x2 _ _ _ h) rfl rfl (Nat.le_of_ble_eq_true rfl) d_X_hold_34 (by decide) h (fun s34 h => ?_)
  refine ww_aload_n 0 G d_X_hold_37 rfl rfl ?_
  refine ww_aload_n 0 G d_X_hold_38 rfl rfl ?_
  refine ww_getr G fs_X_60 (by decide) d_X_hold_39 ?_
  refine ww_iload_n 1 G d_X_hold_42 rfl rfl ?_
  refine ww_iload_n 2 G d_X_hold_43 rfl rfl ?_
  refine ww_iload_n 3 G d_X_hold_44 rfl rfl ?_
  refine ww_cvI (As := [_, _, _, _]) G E cs_X_291 (by decide) (fun o q h => c_X_moveOffered 0 x1 x2 x3 (by decide) _ _ _ h) rfl rfl (Nat.le_of_ble_eq_true rfl) d_X_hold_45 (by decide) h (fun v45 s45 h => ?_)
  refine ww_istore (L' := [(4, _), (0, _), (1, _), (2, _), (3, _)]) G d_X_hold_48 (by decide) rfl ?_
  refine ww_iload 0 G d_X_hold_50 rfl ?_
  refine ww_aload_n 1 G d_X_hold_52 rfl rfl ?_
  refine ww_aload_n 1 G d_X_hold_53 rfl rfl ?_
  refine ww_getr G fs_X_64 (by decide) d_X_hold_54 ?_
  refine ww_iload_n 3 G d_X_hold_57 rfl rfl ?_
  refine ww_iload_n 2 G d_X_hold_58 rfl rfl ?_
  refine ww_iload_n 4 G d_X_hold_59 rfl rfl ?_
  refine ww_cvI (As := [_, _, _, _]) G E cs_X_291 (by decide) (fun o q h => c_X_moveOffered 1 x2 x1 x3 (by decide) _ _ _ h) rfl rfl (Nat.le_of_ble_eq_true rfl) d_X_hold_60 (by decide) h (fun v60 s60 h => ?_)
  refine ww_iadd G d_X_hold_63 ?_
  exact ww_iret G E d_X_hold_64 h
def f_X_meet (x1 : Int32) (x2 : Int32) (x3 : Int32) (s : Mem) : RR :=
  mm_cI (f_X_isBus x1 s) fun v1 s1 =>
  mm_jn (fun (y28 : Int32) s28 =>
    mm_tV (f_X_demand y28 s28) fun s28 =>
    mm_cI (f_X_hold x1 x2 x3 s28) fun v35 s35 =>
    mm_ri v35 s35
  ) (fun r28 =>
  if v1 = 0 then (
    r28 ((0 : Int32)) s1
  ) else (
    mm_cI (f_X_isKiosk x2 s1) fun v8 s8 =>
    if v8 = 0 then (
      r28 ((0 : Int32)) s8
    ) else (
      mm_cI (f_X_isWithin x3 ((41 : Int32)) s8) fun v17 s17 =>
      if v17 = 0 then (
        r28 ((0 : Int32)) s17
      ) else (
        r28 ((1 : Int32)) s17
      )
    )
  ))
set_option maxRecDepth 100000 in
set_option maxHeartbeats 4000000 in
theorem c_X_meet {l : Launch} {K : KK} (x1 : Int32) (x2 : Int32) (x3 : Int32)  (s : Mem) (o : Oc) (q : Mem) (h : f_X_meet x1 x2 x3 s = some (o, q)) : Ct l K y_X_meet b_X_meet 4 (some .int) 7 160 [.ref (aa K 0 0), .int x1, .int x2, .int x3] s o q := by
  refine Ct_of (own := "VillageMail") (L := [(0, _), (1, _), (2, _), (3, _)]) (by decide +kernel) rfl (Nat.le_of_ble_eq_true rfl) rfl (fun Γ G E => ?_)
  unfold f_X_meet at h
  refine ww_iload_n 1 G d_X_meet_0 rfl rfl ?_
  refine ww_csI (As := [_]) G E cs_X_67 (fun o q h => c_X_isBus x1 _ _ _ h) rfl rfl (Nat.le_of_ble_eq_true rfl) d_X_meet_1 (by decide) h (fun v1 s1 h => ?_)
  refine ww_jn h (fun (y28 : Int32) (s28 : Mem) => WW K Γ 0 s28 28 [(0, .ref (aa K 0 0)), (1, .int x1), (2, .int x2), (3, .int x3)] [.int y28]) (fun y28 s28 h => ?_) (fun r28 J28 h => ?_)
  · skip
    refine ww_tsV (As := [_]) G E cs_X_78 (fun o q h => c_X_demand y28 _ _ _ h) rfl rfl (Nat.le_of_ble_eq_true rfl) d_X_meet_28 (by decide) h (fun s28 h => ?_)
    refine ww_aload_n 0 G d_X_meet_31 rfl rfl ?_
    refine ww_iload_n 1 G d_X_meet_32 rfl rfl ?_
    refine ww_iload_n 2 G d_X_meet_33 rfl rfl ?_
    refine ww_iload_n 3 G d_X_meet_34 rfl rfl ?_
    refine ww_cvI (As := [_, _, _]) G E cs_X_268 (by decide) (fun o q h => c_X_hold x1 x2 x3 _ _ _ h) rfl rfl (Nat.le_of_ble_eq_true rfl) d_X_meet_35 (by decide) h (fun v35 s35 h => ?_)
    exact ww_iret G E d_X_meet_38 h
  refine ww_ifeq (tgt := 27) G d_X_meet_4 (by decide) h (fun h => ?_) (fun h => ?_)
  · skip
    refine ww_iconst (v := (0 : Int32)) G d_X_meet_27 ic_0 ?_
    exact J28 _ _ h
  · skip
    refine ww_iload_n 2 G d_X_meet_7 rfl rfl ?_
    refine ww_csI (As := [_]) G E cs_X_71 (fun o q h => c_X_isKiosk x2 _ _ _ h) rfl rfl (Nat.le_of_ble_eq_true rfl) d_X_meet_8 (by decide) h (fun v8 s8 h => ?_)
    refine ww_ifeq (tgt := 27) G d_X_meet_11 (by decide) h (fun h => ?_) (fun h => ?_)
    · skip
      refine ww_iconst (v := (0 : Int32)) G d_X_meet_27 ic_0 ?_
      exact J28 _ _ h
    · skip
      refine ww_iload_n 3 G d_X_meet_14 rfl rfl ?_
      refine ww_bipush (v := (41 : Int32)) G d_X_meet_15 ib_41 ?_
      refine ww_csI (As := [_, _]) G E cs_X_74 (fun o q h => c_X_isWithin x3 ((41 : Int32)) _ _ _ h) rfl rfl (Nat.le_of_ble_eq_true rfl) d_X_meet_17 (by decide) h (fun v17 s17 h => ?_)
      refine ww_ifeq (tgt := 27) G d_X_meet_20 (by decide) h (fun h => ?_) (fun h => ?_)
      · skip
        refine ww_iconst (v := (0 : Int32)) G d_X_meet_27 ic_0 ?_
        exact J28 _ _ h
      · skip
        refine ww_iconst (v := (1 : Int32)) G d_X_meet_23 ic_1 ?_
        refine ww_goto (tgt := 28) G d_X_meet_24 (by decide) ?_
        exact J28 _ _ h
def f_X_breakOff (x1 : Int32) (x2 : Int32) (x3 : Int32) (s : Mem) : RR :=
  mm_cI (f_X_isBus x1 s) fun v1 s1 =>
  mm_jn (fun (y28 : Int32) s28 =>
    mm_tV (f_X_demand y28 s28) fun s28 =>
    mm_cI (f_X_hold x1 x2 x3 s28) fun v35 s35 =>
    if v35 ≤ 0 then (
      mm_ri v35 s35
    ) else (
      mm_gf s35 0 0 14 fun v50 =>
      mm_al 12 v50 fun j53 =>
      mm_gf s35 0 0 15 fun v55 =>
      mm_cV (f_S_unlearn j53 v55 s35) fun s58 =>
      mm_ri v35 s58
    )
  ) (fun r28 =>
  if v1 = 0 then (
    r28 ((0 : Int32)) s1
  ) else (
    mm_cI (f_X_isKiosk x2 s1) fun v8 s8 =>
    if v8 = 0 then (
      r28 ((0 : Int32)) s8
    ) else (
      mm_cI (f_X_isWithin x3 ((41 : Int32)) s8) fun v17 s17 =>
      if v17 = 0 then (
        r28 ((0 : Int32)) s17
      ) else (
        r28 ((1 : Int32)) s17
      )
    )
  ))
set_option maxRecDepth 100000 in
set_option maxHeartbeats 4000000 in
theorem c_X_breakOff {l : Launch} {K : KK} (x1 : Int32) (x2 : Int32) (x3 : Int32)  (s : Mem) (o : Oc) (q : Mem) (h : f_X_breakOff x1 x2 x3 s = some (o, q)) : Ct l K y_X_breakOff b_X_breakOff 5 (some .int) 7 160 [.ref (aa K 0 0), .int x1, .int x2, .int x3] s o q := by
  refine Ct_of (own := "VillageMail") (L := [(0, _), (1, _), (2, _), (3, _)]) (by decide +kernel) rfl (Nat.le_of_ble_eq_true rfl) rfl (fun Γ G E => ?_)
  unfold f_X_breakOff at h
  refine ww_iload_n 1 G d_X_breakOff_0 rfl rfl ?_
  refine ww_csI (As := [_]) G E cs_X_67 (fun o q h => c_X_isBus x1 _ _ _ h) rfl rfl (Nat.le_of_ble_eq_true rfl) d_X_breakOff_1 (by decide) h (fun v1 s1 h => ?_)
  refine ww_jn h (fun (y28 : Int32) (s28 : Mem) => WW K Γ 0 s28 28 [(0, .ref (aa K 0 0)), (1, .int x1), (2, .int x2), (3, .int x3)] [.int y28]) (fun y28 s28 h => ?_) (fun r28 J28 h => ?_)
  · skip
    refine ww_tsV (As := [_]) G E cs_X_78 (fun o q h => c_X_demand y28 _ _ _ h) rfl rfl (Nat.le_of_ble_eq_true rfl) d_X_breakOff_28 (by decide) h (fun s28 h => ?_)
    refine ww_aload_n 0 G d_X_breakOff_31 rfl rfl ?_
    refine ww_iload_n 1 G d_X_breakOff_32 rfl rfl ?_
    refine ww_iload_n 2 G d_X_breakOff_33 rfl rfl ?_
    refine ww_iload_n 3 G d_X_breakOff_34 rfl rfl ?_
    refine ww_cvI (As := [_, _, _]) G E cs_X_268 (by decide) (fun o q h => c_X_hold x1 x2 x3 _ _ _ h) rfl rfl (Nat.le_of_ble_eq_true rfl) d_X_breakOff_35 (by decide) h (fun v35 s35 h => ?_)
    refine ww_istore (L' := [(4, _), (0, _), (1, _), (2, _), (3, _)]) G d_X_breakOff_38 (by decide) rfl ?_
    refine ww_iload 0 G d_X_breakOff_40 rfl ?_
    refine ww_ifle (tgt := 61) G d_X_breakOff_42 (by decide) h (fun h => ?_) (fun h => ?_)
    · skip
      refine ww_iload 0 G d_X_breakOff_61 rfl ?_
      exact ww_iret G E d_X_breakOff_63 h
    · skip
      refine ww_aload_n 1 G d_X_breakOff_45 rfl rfl ?_
      refine ww_getr G fs_X_22 (by decide) d_X_breakOff_46 ?_
      refine ww_aload_n 1 G d_X_breakOff_49 rfl rfl ?_
      refine ww_getf G fs_X_272 (by decide) d_X_breakOff_50 h (fun v50 h => ?_)
      refine ww_aaload G ar_6 (by decide) d_X_breakOff_53 h (fun j53 hj53 h => ?_)
      refine ww_aload_n 1 G d_X_breakOff_54 rfl rfl ?_
      refine ww_getf G fs_X_275 (by decide) d_X_breakOff_55 h (fun v55 h => ?_)
      refine ww_cvV (As := [_]) G E cs_X_278 hj53 (fun o q h => c_S_unlearn j53 v55 hj53 _ _ _ h) rfl rfl (Nat.le_of_ble_eq_true rfl) d_X_breakOff_58 (by decide) h (fun s58 h => ?_)
      refine ww_iload 0 G d_X_breakOff_61 rfl ?_
      exact ww_iret G E d_X_breakOff_63 h
  refine ww_ifeq (tgt := 27) G d_X_breakOff_4 (by decide) h (fun h => ?_) (fun h => ?_)
  · skip
    refine ww_iconst (v := (0 : Int32)) G d_X_breakOff_27 ic_0 ?_
    exact J28 _ _ h
  · skip
    refine ww_iload_n 2 G d_X_breakOff_7 rfl rfl ?_
    refine ww_csI (As := [_]) G E cs_X_71 (fun o q h => c_X_isKiosk x2 _ _ _ h) rfl rfl (Nat.le_of_ble_eq_true rfl) d_X_breakOff_8 (by decide) h (fun v8 s8 h => ?_)
    refine ww_ifeq (tgt := 27) G d_X_breakOff_11 (by decide) h (fun h => ?_) (fun h => ?_)
    · skip
      refine ww_iconst (v := (0 : Int32)) G d_X_breakOff_27 ic_0 ?_
      exact J28 _ _ h
    · skip
      refine ww_iload_n 3 G d_X_breakOff_14 rfl rfl ?_
      refine ww_bipush (v := (41 : Int32)) G d_X_breakOff_15 ib_41 ?_
      refine ww_csI (As := [_, _]) G E cs_X_74 (fun o q h => c_X_isWithin x3 ((41 : Int32)) _ _ _ h) rfl rfl (Nat.le_of_ble_eq_true rfl) d_X_breakOff_17 (by decide) h (fun v17 s17 h => ?_)
      refine ww_ifeq (tgt := 27) G d_X_breakOff_20 (by decide) h (fun h => ?_) (fun h => ?_)
      · skip
        refine ww_iconst (v := (0 : Int32)) G d_X_breakOff_27 ic_0 ?_
        exact J28 _ _ h
      · skip
        refine ww_iconst (v := (1 : Int32)) G d_X_breakOff_23 ic_1 ?_
        refine ww_goto (tgt := 28) G d_X_breakOff_24 (by decide) ?_
        exact J28 _ _ h
def f_X_isStore (x0 : Int32) (s : Mem) : RR :=
  mm_cI (f_X_isWithin x0 ((12 : Int32)) s) fun v3 s3 =>
  mm_rz v3 s3
set_option maxRecDepth 100000 in
set_option maxHeartbeats 4000000 in
theorem c_X_isStore {l : Launch} {K : KK} (x0 : Int32)  (s : Mem) (o : Oc) (q : Mem) (h : f_X_isStore x0 s = some (o, q)) : Ct l K y_X_isStore b_X_isStore 1 (some .boolean) 1 21 [.int x0] s o q := by
  refine Ct_of (own := "VillageMail") (L := [(0, _)]) (by decide +kernel) rfl (Nat.le_of_ble_eq_true rfl) rfl (fun Γ G E => ?_)
  unfold f_X_isStore at h
  refine ww_iload_n 0 G d_X_isStore_0 rfl rfl ?_
  refine ww_bipush (v := (12 : Int32)) G d_X_isStore_1 ib_12 ?_
  refine ww_csI (As := [_, _]) G E cs_X_74 (fun o q h => c_X_isWithin x0 ((12 : Int32)) _ _ _ h) rfl rfl (Nat.le_of_ble_eq_true rfl) d_X_isStore_3 (by decide) h (fun v3 s3 h => ?_)
  exact ww_zret G E d_X_isStore_6 h
def lp_X_reboot_25 (x1 : Int32) (i2 : Nat) (k : Mem → RR) : Nat → Int32 → Mem → RR
  | 0, _, _ => none
  | n + 1, x3, s =>
    mm_gf s 0 0 7 fun v27 =>
    if v27 ≤ x3 then (
      k s
    ) else (
      mm_al 16 x3 fun j38 =>
      mm_gf s 19 j38 1 fun v39 =>
      if v39 = x1 then (
        lp_X_reboot_25 x1 i2 k n (x3 + (1 : Int32)) s
      ) else (
        mm_al 16 x3 fun j51 =>
        mm_gf s 19 j51 0 fun v52 =>
        if v52 = x1 then (
          lp_X_reboot_25 x1 i2 k n (x3 + (1 : Int32)) s
        ) else (
          mm_st s 11 i2 16 x3 ((0 : Int32)) fun s65 =>
          lp_X_reboot_25 x1 i2 k n (x3 + (1 : Int32)) s65
        )
      )
    )
set_option maxRecDepth 100000 in
set_option maxHeartbeats 4000000 in
theorem lp_X_reboot_25_ok {K : KK} {Γ : Cx} {o : Oc} {q : Mem} (x1 : Int32) (i2 : Nat) (h2 : i2 < 12) (k : Mem → RR) (G : Good K Γ b_X_reboot "VillageMail" 4 7 109) (E : Ends K Γ none o q)
    (Kx : ∀  (s : Mem), k s = some (o, q) → WW K Γ 0 s 72 [] []) :
    ∀ (n : Nat) (x3 : Int32) (s : Mem), lp_X_reboot_25 x1 i2 k n x3 s = some (o, q) → WW K Γ 0 s 25 [(0, .ref (aa K 0 0)), (1, .int x1), (2, .ref (aa K 7 i2)), (3, .int x3)] [] := by
  intro n
  induction n with
  | zero => intro _ _ h; exact nomatch h
  | succ n ih =>
    intro x3 s h
    unfold lp_X_reboot_25 at h
    refine ww_iload_n 3 G d_X_reboot_25 rfl rfl ?_
    refine ww_aload_n 0 G d_X_reboot_26 rfl rfl ?_
    refine ww_getf G fs_X_171 (by decide) d_X_reboot_27 h (fun v27 h => ?_)
    refine ww_icmpge (tgt := 72) G d_X_reboot_30 (by decide) h (fun h => ?_) (fun h => ?_)
    · skip
      refine ww_sub [] rfl ?_
      exact Kx  _ h
    · skip
      refine ww_aload_n 0 G d_X_reboot_33 rfl rfl ?_
      refine ww_getr G fs_X_38 (by decide) d_X_reboot_34 ?_
      refine ww_iload_n 3 G d_X_reboot_37 rfl rfl ?_
      refine ww_aaload G ar_18 (by decide) d_X_reboot_38 h (fun j38 hj38 h => ?_)
      refine ww_getf G fs_X_185 hj38 d_X_reboot_39 h (fun v39 h => ?_)
      refine ww_iload_n 1 G d_X_reboot_42 rfl rfl ?_
      refine ww_icmpeq (tgt := 66) G d_X_reboot_43 (by decide) h (fun h => ?_) (fun h => ?_)
      · skip
        refine ww_iinc 3 (L' := [(3, _), (0, _), (1, _), (2, _)]) G d_X_reboot_66 rfl ic_1 (by decide) rfl ?_
        refine ww_goto (tgt := 25) G d_X_reboot_69 (by decide) ?_
        refine ww_sub [1, 2, 3, 0] rfl ?_
        exact ih _ _ h
      · skip
        refine ww_aload_n 0 G d_X_reboot_46 rfl rfl ?_
        refine ww_getr G fs_X_38 (by decide) d_X_reboot_47 ?_
        refine ww_iload_n 3 G d_X_reboot_50 rfl rfl ?_
        refine ww_aaload G ar_18 (by decide) d_X_reboot_51 h (fun j51 hj51 h => ?_)
        refine ww_getf G fs_X_182 hj51 d_X_reboot_52 h (fun v52 h => ?_)
        refine ww_iload_n 1 G d_X_reboot_55 rfl rfl ?_
        refine ww_icmpeq (tgt := 66) G d_X_reboot_56 (by decide) h (fun h => ?_) (fun h => ?_)
        · skip
          refine ww_iinc 3 (L' := [(3, _), (0, _), (1, _), (2, _)]) G d_X_reboot_66 rfl ic_1 (by decide) rfl ?_
          refine ww_goto (tgt := 25) G d_X_reboot_69 (by decide) ?_
          refine ww_sub [1, 2, 3, 0] rfl ?_
          exact ih _ _ h
        · skip
          refine ww_aload_n 2 G d_X_reboot_59 rfl rfl ?_
          refine ww_getr G fs_X_227 h2 d_X_reboot_60 ?_
          refine ww_iload_n 3 G d_X_reboot_63 rfl rfl ?_
          refine ww_iconst (v := (0 : Int32)) G d_X_reboot_64 ic_0 ?_
          refine ww_iastore G ar_11 h2 d_X_reboot_65 h (fun s65 h => ?_)
          refine ww_iinc 3 (L' := [(3, _), (0, _), (1, _), (2, _)]) G d_X_reboot_66 rfl ic_1 (by decide) rfl ?_
          refine ww_goto (tgt := 25) G d_X_reboot_69 (by decide) ?_
          refine ww_sub [1, 2, 3, 0] rfl ?_
          exact ih _ _ h
def f_X_reboot (x1 : Int32) (s : Mem) : RR :=
  mm_cI (f_X_isStore x1 s) fun v1 s1 =>
  mm_tV (f_X_demand v1 s1) fun s4 =>
  mm_al 12 x1 fun j12 =>
  mm_pf s4 7 j12 6 ((0 : Int32)) fun s16 =>
  mm_cV (f_S_forgetPieces j12 s16) fun s20 =>
  mm_lp (fun kk => lp_X_reboot_25 x1 j12 kk FU ((0 : Int32)) s20) fun s25 =>
  mm_rv s25
set_option maxRecDepth 100000 in
set_option maxHeartbeats 4000000 in
theorem c_X_reboot {l : Launch} {K : KK} (x1 : Int32)  (s : Mem) (o : Oc) (q : Mem) (h : f_X_reboot x1 s = some (o, q)) : Ct l K y_X_reboot b_X_reboot 4 none 7 109 [.ref (aa K 0 0), .int x1] s o q := by
  refine Ct_of (own := "VillageMail") (L := [(0, _), (1, _)]) (by decide +kernel) rfl (Nat.le_of_ble_eq_true rfl) rfl (fun Γ G E => ?_)
  unfold f_X_reboot at h
  refine ww_iload_n 1 G d_X_reboot_0 rfl rfl ?_
  refine ww_csI (As := [_]) G E cs_X_335 (fun o q h => c_X_isStore x1 _ _ _ h) rfl rfl (Nat.le_of_ble_eq_true rfl) d_X_reboot_1 (by decide) h (fun v1 s1 h => ?_)
  refine ww_tsV (As := [_]) G E cs_X_78 (fun o q h => c_X_demand v1 _ _ _ h) rfl rfl (Nat.le_of_ble_eq_true rfl) d_X_reboot_4 (by decide) h (fun s4 h => ?_)
  refine ww_aload_n 0 G d_X_reboot_7 rfl rfl ?_
  refine ww_getr G fs_X_22 (by decide) d_X_reboot_8 ?_
  refine ww_iload_n 1 G d_X_reboot_11 rfl rfl ?_
  refine ww_aaload G ar_6 (by decide) d_X_reboot_12 h (fun j12 hj12 h => ?_)
  refine ww_astore_n (L' := [(2, _), (0, _), (1, _)]) G d_X_reboot_13 rfl (by decide) rfl ?_
  refine ww_aload_n 0 G d_X_reboot_14 rfl rfl ?_
  refine ww_iconst (v := (0 : Int32)) G d_X_reboot_15 ic_0 ?_
  refine ww_putf G fs_X_107 hj12 d_X_reboot_16 h (fun s16 h => ?_)
  refine ww_aload_n 0 G d_X_reboot_19 rfl rfl ?_
  refine ww_cvV (As := []) G E cs_X_338 hj12 (fun o q h => c_S_forgetPieces j12 hj12 _ _ _ h) rfl rfl (Nat.le_of_ble_eq_true rfl) d_X_reboot_20 (by decide) h (fun s20 h => ?_)
  refine ww_iconst (v := (0 : Int32)) G d_X_reboot_23 ic_0 ?_
  refine ww_istore_n (L' := [(3, _), (2, _), (0, _), (1, _)]) G d_X_reboot_24 rfl (by decide) rfl ?_
  refine ww_sub [2, 3, 1, 0] rfl ?_
  refine lp_X_reboot_25_ok x1 j12 hj12 _ G E (fun s25 h => ?_) FU _ _ h
  exact ww_vret G E d_X_reboot_72 h
def f_X_spoil (x1 : Int32) (x2 : Int32) (x3 : Int32) (x4 : Int32) (x5 : Int32) (s : Mem) : RR :=
  mm_cI (f_X_isStore x1 s) fun v1 s1 =>
  mm_jn (fun (y23 : Int32) s23 =>
    mm_tV (f_X_demand y23 s23) fun s23 =>
    mm_al 16 x2 fun j31 =>
    mm_gf s23 19 j31 6 fun v32 =>
    mm_cI (f_X_piecesIn v32 s23) fun v40 s40 =>
    mm_cI (f_X_isWithin x3 v40 s40) fun v43 s43 =>
    mm_tV (f_X_demand v43 s43) fun s46 =>
    mm_cI (f_X_isWithin x4 (mm_min ((8 : Int32)) (v32 - (x3 * ((8 : Int32))))) s46) fun v63 s63 =>
    mm_tV (f_X_demand v63 s63) fun s66 =>
    mm_al 12 x1 fun j74 =>
    mm_cI (f_S_has j74 ((x2 * ((4 : Int32))) + x3) s66) fun v88 s88 =>
    if ¬ v88 = 0 then (
      mm_ldj s88 10 j74 64 ((x2 * ((4 : Int32))) + x3) fun v110 =>
      mm_cJ (f_X_shifted x5 x4 s88) fun v115 s115 =>
      mm_stj s115 10 j74 64 ((x2 * ((4 : Int32))) + x3) (v110 ^^^ v115) fun s119 =>
      mm_ldj s119 10 j74 64 ((x2 * ((4 : Int32))) + x3) fun v127 =>
      mm_cI (f_X_byteAt v127 x4 s119) fun v130 s130 =>
      mm_ri v130 s130
    ) else (
      mm_th 4 s88
    )
  ) (fun r23 =>
  if v1 = 0 then (
    r23 ((0 : Int32)) s1
  ) else (
    mm_gf s1 0 0 7 fun v9 =>
    mm_cI (f_X_isWithin x2 v9 s1) fun v12 s12 =>
    if v12 = 0 then (
      r23 ((0 : Int32)) s12
    ) else (
      r23 ((1 : Int32)) s12
    )
  ))
set_option maxRecDepth 100000 in
set_option maxHeartbeats 4000000 in
theorem c_X_spoil {l : Launch} {K : KK} (x1 : Int32) (x2 : Int32) (x3 : Int32) (x4 : Int32) (x5 : Int32)  (s : Mem) (o : Oc) (q : Mem) (h : f_X_spoil x1 x2 x3 x4 x5 s = some (o, q)) : Ct l K y_X_spoil b_X_spoil 9 (some .int) 7 109 [.ref (aa K 0 0), .int x1, .int x2, .int x3, .int x4, .int x5] s o q := by
  refine Ct_of (own := "VillageMail") (L := [(0, _), (1, _), (2, _), (3, _), (4, _), (5, _)]) (by decide +kernel) rfl (Nat.le_of_ble_eq_true rfl) rfl (fun Γ G E => ?_)
  unfold f_X_spoil at h
  refine ww_iload_n 1 G d_X_spoil_0 rfl rfl ?_
  refine ww_csI (As := [_]) G E cs_X_335 (fun o q h => c_X_isStore x1 _ _ _ h) rfl rfl (Nat.le_of_ble_eq_true rfl) d_X_spoil_1 (by decide) h (fun v1 s1 h => ?_)
  refine ww_jn h (fun (y23 : Int32) (s23 : Mem) => WW K Γ 0 s23 23 [(0, .ref (aa K 0 0)), (1, .int x1), (2, .int x2), (3, .int x3), (4, .int x4), (5, .int x5)] [.int y23]) (fun y23 s23 h => ?_) (fun r23 J23 h => ?_)
  · skip
    refine ww_tsV (As := [_]) G E cs_X_78 (fun o q h => c_X_demand y23 _ _ _ h) rfl rfl (Nat.le_of_ble_eq_true rfl) d_X_spoil_23 (by decide) h (fun s23 h => ?_)
    refine ww_aload_n 0 G d_X_spoil_26 rfl rfl ?_
    refine ww_getr G fs_X_38 (by decide) d_X_spoil_27 ?_
    refine ww_iload_n 2 G d_X_spoil_30 rfl rfl ?_
    refine ww_aaload G ar_18 (by decide) d_X_spoil_31 h (fun j31 hj31 h => ?_)
    refine ww_getf G fs_X_152 hj31 d_X_spoil_32 h (fun v32 h => ?_)
    refine ww_istore (L' := [(6, _), (0, _), (1, _), (2, _), (3, _), (4, _), (5, _)]) G d_X_spoil_35 (by decide) rfl ?_
    refine ww_iload_n 4 G d_X_spoil_37 rfl rfl ?_
    refine ww_iload 0 G d_X_spoil_38 rfl ?_
    refine ww_csI (As := [_]) G E cs_X_178 (fun o q h => c_X_piecesIn v32 _ _ _ h) rfl rfl (Nat.le_of_ble_eq_true rfl) d_X_spoil_40 (by decide) h (fun v40 s40 h => ?_)
    refine ww_csI (As := [_, _]) G E cs_X_74 (fun o q h => c_X_isWithin x3 v40 _ _ _ h) rfl rfl (Nat.le_of_ble_eq_true rfl) d_X_spoil_43 (by decide) h (fun v43 s43 h => ?_)
    refine ww_tsV (As := [_]) G E cs_X_78 (fun o q h => c_X_demand v43 _ _ _ h) rfl rfl (Nat.le_of_ble_eq_true rfl) d_X_spoil_46 (by decide) h (fun s46 h => ?_)
    refine ww_iload 5 G d_X_spoil_49 rfl ?_
    refine ww_bipush (v := (8 : Int32)) G d_X_spoil_51 ib_8 ?_
    refine ww_iload 0 G d_X_spoil_53 rfl ?_
    refine ww_iload_n 4 G d_X_spoil_55 rfl rfl ?_
    refine ww_bipush (v := (8 : Int32)) G d_X_spoil_56 ib_8 ?_
    refine ww_imul G d_X_spoil_58 ?_
    refine ww_isub G d_X_spoil_59 ?_
    refine ww_mmin G mx_X_341 (by decide) (Nat.le_of_ble_eq_true rfl) d_X_spoil_60 ?_
    refine ww_csI (As := [_, _]) G E cs_X_74 (fun o q h => c_X_isWithin x4 (mm_min ((8 : Int32)) (v32 - (x3 * ((8 : Int32))))) _ _ _ h) rfl rfl (Nat.le_of_ble_eq_true rfl) d_X_spoil_63 (by decide) h (fun v63 s63 h => ?_)
    refine ww_tsV (As := [_]) G E cs_X_78 (fun o q h => c_X_demand v63 _ _ _ h) rfl rfl (Nat.le_of_ble_eq_true rfl) d_X_spoil_66 (by decide) h (fun s66 h => ?_)
    refine ww_aload_n 1 G d_X_spoil_69 rfl rfl ?_
    refine ww_getr G fs_X_22 (by decide) d_X_spoil_70 ?_
    refine ww_iload_n 2 G d_X_spoil_73 rfl rfl ?_
    refine ww_aaload G ar_6 (by decide) d_X_spoil_74 h (fun j74 hj74 h => ?_)
    refine ww_astore (L' := [(7, _), (6, _), (0, _), (1, _), (2, _), (3, _), (4, _), (5, _)]) G d_X_spoil_75 (by decide) rfl ?_
    refine ww_iload_n 4 G d_X_spoil_77 rfl rfl ?_
    refine ww_iconst (v := (4 : Int32)) G d_X_spoil_78 ic_4 ?_
    refine ww_imul G d_X_spoil_79 ?_
    refine ww_iload_n 5 G d_X_spoil_80 rfl rfl ?_
    refine ww_iadd G d_X_spoil_81 ?_
    refine ww_istore (L' := [(8, _), (7, _), (6, _), (0, _), (1, _), (2, _), (3, _), (4, _), (5, _)]) G d_X_spoil_82 (by decide) rfl ?_
    refine ww_aload 1 G d_X_spoil_84 rfl ?_
    refine ww_iload 0 G d_X_spoil_86 rfl ?_
    refine ww_cvI (As := [_]) G E cs_X_316 hj74 (fun o q h => c_S_has j74 ((x2 * ((4 : Int32))) + x3) hj74 _ _ _ h) rfl rfl (Nat.le_of_ble_eq_true rfl) d_X_spoil_88 (by decide) h (fun v88 s88 h => ?_)
    refine ww_ifne (tgt := 102) G d_X_spoil_91 (by decide) h (fun h => ?_) (fun h => ?_)
    · skip
      refine ww_aload 1 G d_X_spoil_102 rfl ?_
      refine ww_getr G fs_X_253 hj74 d_X_spoil_104 ?_
      refine ww_iload 0 G d_X_spoil_107 rfl ?_
      refine ww_dup2 G d_X_spoil_109 rfl rfl ?_
      refine ww_laload G ar_10 hj74 d_X_spoil_110 h (fun v110 h => ?_)
      refine ww_iload 8 G d_X_spoil_111 rfl ?_
      refine ww_iload 7 G d_X_spoil_113 rfl ?_
      refine ww_csJ (As := [_, _]) G E cs_X_167 (fun o q h => c_X_shifted x5 x4 _ _ _ h) rfl rfl (Nat.le_of_ble_eq_true rfl) d_X_spoil_115 (by decide) h (fun v115 s115 h => ?_)
      refine ww_lxor G d_X_spoil_118 ?_
      refine ww_lastore G ar_10 hj74 d_X_spoil_119 h (fun s119 h => ?_)
      refine ww_aload 1 G d_X_spoil_120 rfl ?_
      refine ww_getr G fs_X_253 hj74 d_X_spoil_122 ?_
      refine ww_iload 0 G d_X_spoil_125 rfl ?_
      refine ww_laload G ar_10 hj74 d_X_spoil_127 h (fun v127 h => ?_)
      refine ww_iload 7 G d_X_spoil_128 rfl ?_
      refine ww_csI (As := [_, _]) G E cs_X_158 (fun o q h => c_X_byteAt v127 x4 _ _ _ h) rfl rfl (Nat.le_of_ble_eq_true rfl) d_X_spoil_130 (by decide) h (fun v130 s130 h => ?_)
      exact ww_iret G E d_X_spoil_133 h
    · skip
      exact ww_thr G E xs_X_344 d_X_spoil_94 d_X_spoil_97 d_X_spoil_98 d_X_spoil_101 (by decide) (Nat.le_of_ble_eq_true rfl) h
  refine ww_ifeq (tgt := 22) G d_X_spoil_4 (by decide) h (fun h => ?_) (fun h => ?_)
  · skip
    refine ww_iconst (v := (0 : Int32)) G d_X_spoil_22 ic_0 ?_
    exact J23 _ _ h
  · skip
    refine ww_iload_n 2 G d_X_spoil_7 rfl rfl ?_
    refine ww_aload_n 0 G d_X_spoil_8 rfl rfl ?_
    refine ww_getf G fs_X_171 (by decide) d_X_spoil_9 h (fun v9 h => ?_)
    refine ww_csI (As := [_, _]) G E cs_X_74 (fun o q h => c_X_isWithin x2 v9 _ _ _ h) rfl rfl (Nat.le_of_ble_eq_true rfl) d_X_spoil_12 (by decide) h (fun v12 s12 h => ?_)
    refine ww_ifeq (tgt := 22) G d_X_spoil_15 (by decide) h (fun h => ?_) (fun h => ?_)
    · skip
      refine ww_iconst (v := (0 : Int32)) G d_X_spoil_22 ic_0 ?_
      exact J23 _ _ h
    · skip
      refine ww_iconst (v := (1 : Int32)) G d_X_spoil_18 ic_1 ?_
      refine ww_goto (tgt := 23) G d_X_spoil_19 (by decide) ?_
      exact J23 _ _ h

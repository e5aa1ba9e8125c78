def lp_M_give_27 (x1 : Int32) (x2 : Int32) (x3 : Int32) (x4 : Int32) (x6 : Int32) (x7 : Int32) (k : Int32 → Mem → RR) : Nat → Int32 → Int32 → Mem → RR
  | 0, _, _, _ => none
  | n + 1, x5, x8, s =>
    if ((4 : Int32)) ≤ x8 then (
      k x5 s
    ) else (
      mm_ld s 37 0 16 x7 fun v39 =>
      if ¬ v39 = x6 then (
        k x5 s
      ) else (
        if x3 ≤ x5 then (
          lp_M_give_27 x1 x2 x3 x4 x6 x7 k n x5 (x8 + (1 : Int32)) s
        ) else (
          mm_ld s 60 0 128 ((x4 + (((4 : Int32)) * x7)) + x8) fun v65 =>
          if v65 = 0 then (
            lp_M_give_27 x1 x2 x3 x4 x6 x7 k n x5 (x8 + (1 : Int32)) s
          ) else (
            mm_cI (f_M_move x1 x2 x7 x8 s) fun v76 s76 =>
            if v76 = 0 then (
              lp_M_give_27 x1 x2 x3 x4 x6 x7 k n x5 (x8 + (1 : Int32)) s76
            ) else (
              lp_M_give_27 x1 x2 x3 x4 x6 x7 k n (x5 + (1 : Int32)) (x8 + (1 : Int32)) s76
            )
          )
        )
      )
    )
set_option maxRecDepth 100000 in
set_option maxHeartbeats 4000000 in
theorem lp_M_give_27_ok {K : KK} {Γ : Cx} {o : Oc} {q : Mem} (x1 : Int32) (x2 : Int32) (x3 : Int32) (x4 : Int32) (x6 : Int32) (x7 : Int32)  (k : Int32 → Mem → RR) (G : Good K Γ b_M_give "VillageMailModel" 9 4 99) (E : Ends K Γ (some .int) o q)
    (Kx : ∀ (x5 : Int32) (s : Mem), k x5 s = some (o, q) → WW K Γ 0 s 91 [(0, .ref (aa K 30 0)), (1, .int x1), (2, .int x2), (3, .int x3), (4, .int x4), (5, .int x5), (6, .int x6), (7, .int x7)] []) :
    ∀ (n : Nat) (x5 : Int32) (x8 : Int32) (s : Mem), lp_M_give_27 x1 x2 x3 x4 x6 x7 k n x5 x8 s = some (o, q) → WW K Γ 0 s 27 [(0, .ref (aa K 30 0)), (1, .int x1), (2, .int x2), (3, .int x3), (4, .int x4), (5, .int x5), (6, .int x6), (7, .int x7), (8, .int x8)] [] := by
  intro n
  induction n with
  | zero => intro _ _ _ h; exact nomatch h
  | succ n ih =>
    intro x5 x8 s h
    unfold lp_M_give_27 at h
    refine ww_iload 8 G d_M_give_27 rfl ?_
    refine ww_iconst (v := (4 : Int32)) G d_M_give_29 ic_4 ?_
    refine ww_icmpge (tgt := 91) G d_M_give_30 (by decide) h (fun h => ?_) (fun h => ?_)
    · skip
      refine ww_sub [0, 1, 2, 3, 4, 5, 6, 7] rfl ?_
      exact Kx _ _ h
    · skip
      refine ww_aload_n 0 G d_M_give_33 rfl rfl ?_
      refine ww_getr G fs_M_28 (by decide) d_M_give_34 ?_
      refine ww_iload 7 G d_M_give_37 rfl ?_
      refine ww_iaload G ar_37 (by decide) d_M_give_39 h (fun v39 h => ?_)
      refine ww_iload 6 G d_M_give_40 rfl ?_
      refine ww_icmpne (tgt := 91) G d_M_give_42 (by decide) h (fun h => ?_) (fun h => ?_)
      · skip
        refine ww_sub [0, 1, 2, 3, 4, 5, 6, 7] rfl ?_
        exact Kx _ _ h
      · skip
        refine ww_iload 5 G d_M_give_45 rfl ?_
        refine ww_iload_n 3 G d_M_give_47 rfl rfl ?_
        refine ww_icmpge (tgt := 85) G d_M_give_48 (by decide) h (fun h => ?_) (fun h => ?_)
        · skip
          refine ww_iinc 8 (L' := [(8, _), (0, _), (1, _), (2, _), (3, _), (4, _), (5, _), (6, _), (7, _)]) G d_M_give_85 rfl ic_1 (by decide) rfl ?_
          refine ww_goto (tgt := 27) G d_M_give_88 (by decide) ?_
          refine ww_sub [1, 2, 3, 4, 5, 6, 7, 8, 0] rfl ?_
          exact ih _ _ _ h
        · skip
          refine ww_aload_n 0 G d_M_give_51 rfl rfl ?_
          refine ww_getr G fs_M_98 (by decide) d_M_give_52 ?_
          refine ww_iload 4 G d_M_give_55 rfl ?_
          refine ww_iconst (v := (4 : Int32)) G d_M_give_57 ic_4 ?_
          refine ww_iload 7 G d_M_give_58 rfl ?_
          refine ww_imul G d_M_give_60 ?_
          refine ww_iadd G d_M_give_61 ?_
          refine ww_iload 8 G d_M_give_62 rfl ?_
          refine ww_iadd G d_M_give_64 ?_
          refine ww_baload G ar_60 (by decide) d_M_give_65 h (fun v65 h => ?_)
          refine ww_ifeq (tgt := 85) G d_M_give_66 (by decide) h (fun h => ?_) (fun h => ?_)
          · skip
            refine ww_iinc 8 (L' := [(8, _), (0, _), (1, _), (2, _), (3, _), (4, _), (5, _), (6, _), (7, _)]) G d_M_give_85 rfl ic_1 (by decide) rfl ?_
            refine ww_goto (tgt := 27) G d_M_give_88 (by decide) ?_
            refine ww_sub [1, 2, 3, 4, 5, 6, 7, 8, 0] rfl ?_
            exact ih _ _ _ h
          · skip
            refine ww_aload_n 0 G d_M_give_69 rfl rfl ?_
            refine ww_iload_n 1 G d_M_give_70 rfl rfl ?_
            refine ww_iload_n 2 G d_M_give_71 rfl rfl ?_
            refine ww_iload 7 G d_M_give_72 rfl ?_
            refine ww_iload 8 G d_M_give_74 rfl ?_
            refine ww_cvI (As := [_, _, _, _]) G E cs_M_204 (by decide) (fun o q h => c_M_move x1 x2 x7 x8 _ _ _ h) rfl rfl (Nat.le_of_ble_eq_true rfl) d_M_give_76 (by decide) h (fun v76 s76 h => ?_)
            refine ww_ifeq (tgt := 85) G d_M_give_79 (by decide) h (fun h => ?_) (fun h => ?_)
            · skip
              refine ww_iinc 8 (L' := [(8, _), (0, _), (1, _), (2, _), (3, _), (4, _), (5, _), (6, _), (7, _)]) G d_M_give_85 rfl ic_1 (by decide) rfl ?_
              refine ww_goto (tgt := 27) G d_M_give_88 (by decide) ?_
              refine ww_sub [1, 2, 3, 4, 5, 6, 7, 8, 0] rfl ?_
              exact ih _ _ _ h
            · skip
              refine ww_iinc 5 (L' := [(5, _), (0, _), (1, _), (2, _), (3, _), (4, _), (6, _), (7, _), (8, _)]) G d_M_give_82 rfl ic_1 (by decide) rfl ?_
              refine ww_iinc 8 (L' := [(8, _), (5, _), (0, _), (1, _), (2, _), (3, _), (4, _), (6, _), (7, _)]) G d_M_give_85 rfl ic_1 (by decide) rfl ?_
              refine ww_goto (tgt := 27) G d_M_give_88 (by decide) ?_
              refine ww_sub [2, 3, 4, 5, 6, 1, 7, 8, 0] rfl ?_
              exact ih _ _ _ h
def lp_M_give_15 (x1 : Int32) (x2 : Int32) (x3 : Int32) (x4 : Int32) (x6 : Int32) (k : Int32 → Mem → RR) : Nat → Int32 → Int32 → Mem → RR
  | 0, _, _, _ => none
  | n + 1, x5, x7, s =>
    mm_gf s 30 0 7 fun v18 =>
    if v18 ≤ x7 then (
      k x5 s
    ) else (
      mm_lp (fun kk => lp_M_give_27 x1 x2 x3 x4 x6 x7 kk FU x5 ((0 : Int32)) s) fun x5_27 s27 =>
      lp_M_give_15 x1 x2 x3 x4 x6 k n x5_27 (x7 + (1 : Int32)) s27
    )
set_option maxRecDepth 100000 in
set_option maxHeartbeats 4000000 in
theorem lp_M_give_15_ok {K : KK} {Γ : Cx} {o : Oc} {q : Mem} (x1 : Int32) (x2 : Int32) (x3 : Int32) (x4 : Int32) (x6 : Int32)  (k : Int32 → Mem → RR) (G : Good K Γ b_M_give "VillageMailModel" 9 4 99) (E : Ends K Γ (some .int) o q)
    (Kx : ∀ (x5 : Int32) (s : Mem), k x5 s = some (o, q) → WW K Γ 0 s 97 [(0, .ref (aa K 30 0)), (1, .int x1), (2, .int x2), (3, .int x3), (4, .int x4), (5, .int x5), (6, .int x6)] []) :
    ∀ (n : Nat) (x5 : Int32) (x7 : Int32) (s : Mem), lp_M_give_15 x1 x2 x3 x4 x6 k n x5 x7 s = some (o, q) → WW K Γ 0 s 15 [(0, .ref (aa K 30 0)), (1, .int x1), (2, .int x2), (3, .int x3), (4, .int x4), (5, .int x5), (6, .int x6), (7, .int x7)] [] := by
  intro n
  induction n with
  | zero => intro _ _ _ h; exact nomatch h
  | succ n ih =>
    intro x5 x7 s h
    unfold lp_M_give_15 at h
    refine ww_iload 7 G d_M_give_15 rfl ?_
    refine ww_aload_n 0 G d_M_give_17 rfl rfl ?_
    refine ww_getf G fs_M_112 (by decide) d_M_give_18 h (fun v18 h => ?_)
    refine ww_icmpge (tgt := 97) G d_M_give_21 (by decide) h (fun h => ?_) (fun h => ?_)
    · skip
      refine ww_sub [0, 1, 2, 3, 4, 5, 6] rfl ?_
      exact Kx _ _ h
    · skip
      refine ww_iconst (v := (0 : Int32)) G d_M_give_24 ic_0 ?_
      refine ww_istore (L' := [(8, _), (0, _), (1, _), (2, _), (3, _), (4, _), (5, _), (6, _), (7, _)]) G d_M_give_25 (by decide) rfl ?_
      refine ww_sub [1, 2, 3, 4, 5, 6, 7, 8, 0] rfl ?_
      refine lp_M_give_27_ok x1 x2 x3 x4 x6 x7 _ G E (fun x5_27 s27 h => ?_) FU _ _ _ h
      refine ww_iinc 7 (L' := [(7, _), (0, _), (1, _), (2, _), (3, _), (4, _), (5, _), (6, _)]) G d_M_give_91 rfl ic_1 (by decide) rfl ?_
      refine ww_goto (tgt := 15) G d_M_give_94 (by decide) ?_
      refine ww_sub [1, 2, 3, 4, 5, 6, 7, 0] rfl ?_
      exact ih _ _ _ h
def lp_M_give_6 (x1 : Int32) (x2 : Int32) (x3 : Int32) (x4 : Int32) (k : Int32 → Mem → RR) : Nat → Int32 → Int32 → Mem → RR
  | 0, _, _, _ => none
  | n + 1, x5, x6, s =>
    if ((3 : Int32)) ≤ x6 then (
      k x5 s
    ) else (
      mm_lp (fun kk => lp_M_give_15 x1 x2 x3 x4 x6 kk FU x5 ((0 : Int32)) s) fun x5_15 s15 =>
      lp_M_give_6 x1 x2 x3 x4 k n x5_15 (x6 + (1 : Int32)) s15
    )
set_option maxRecDepth 100000 in
set_option maxHeartbeats 4000000 in
theorem lp_M_give_6_ok {K : KK} {Γ : Cx} {o : Oc} {q : Mem} (x1 : Int32) (x2 : Int32) (x3 : Int32) (x4 : Int32)  (k : Int32 → Mem → RR) (G : Good K Γ b_M_give "VillageMailModel" 9 4 99) (E : Ends K Γ (some .int) o q)
    (Kx : ∀ (x5 : Int32) (s : Mem), k x5 s = some (o, q) → WW K Γ 0 s 103 [(5, .int x5)] []) :
    ∀ (n : Nat) (x5 : Int32) (x6 : Int32) (s : Mem), lp_M_give_6 x1 x2 x3 x4 k n x5 x6 s = some (o, q) → WW K Γ 0 s 6 [(0, .ref (aa K 30 0)), (1, .int x1), (2, .int x2), (3, .int x3), (4, .int x4), (5, .int x5), (6, .int x6)] [] := by
  intro n
  induction n with
  | zero => intro _ _ _ h; exact nomatch h
  | succ n ih =>
    intro x5 x6 s h
    unfold lp_M_give_6 at h
    refine ww_iload 6 G d_M_give_6 rfl ?_
    refine ww_iconst (v := (3 : Int32)) G d_M_give_8 ic_3 ?_
    refine ww_icmpge (tgt := 103) G d_M_give_9 (by decide) h (fun h => ?_) (fun h => ?_)
    · skip
      refine ww_sub [5] rfl ?_
      exact Kx _ _ h
    · skip
      refine ww_iconst (v := (0 : Int32)) G d_M_give_12 ic_0 ?_
      refine ww_istore (L' := [(7, _), (0, _), (1, _), (2, _), (3, _), (4, _), (5, _), (6, _)]) G d_M_give_13 (by decide) rfl ?_
      refine ww_sub [1, 2, 3, 4, 5, 6, 7, 0] rfl ?_
      refine lp_M_give_15_ok x1 x2 x3 x4 x6 _ G E (fun x5_15 s15 h => ?_) FU _ _ _ h
      refine ww_iinc 6 (L' := [(6, _), (0, _), (1, _), (2, _), (3, _), (4, _), (5, _)]) G d_M_give_97 rfl ic_1 (by decide) rfl ?_
      refine ww_goto (tgt := 6) G d_M_give_100 (by decide) ?_
      refine ww_sub [1, 2, 3, 4, 5, 6, 0] rfl ?_
      exact ih _ _ _ h
def f_M_give (x1 : Int32) (x2 : Int32) (x3 : Int32) (x4 : Int32) (s : Mem) : RR :=
  mm_lp (fun kk => lp_M_give_6 x1 x2 x3 x4 kk FU ((0 : Int32)) ((0 : Int32)) s) fun x5_6 s6 =>
  mm_ri x5_6 s6
set_option maxRecDepth 100000 in
set_option maxHeartbeats 4000000 in
theorem c_M_give {l : Launch} {K : KK} (x1 : Int32) (x2 : Int32) (x3 : Int32) (x4 : Int32)  (s : Mem) (o : Oc) (q : Mem) (h : f_M_give x1 x2 x3 x4 s = some (o, q)) : Ct l K y_M_give b_M_give 9 (some .int) 4 99 [.ref (aa K 30 0), .int x1, .int x2, .int x3, .int x4] s o q := by
  refine Ct_of (own := "VillageMailModel") (L := [(0, _), (1, _), (2, _), (3, _), (4, _)]) (by decide +kernel) rfl (Nat.le_of_ble_eq_true rfl) rfl (fun Γ G E => ?_)
  unfold f_M_give at h
  refine ww_iconst (v := (0 : Int32)) G d_M_give_0 ic_0 ?_
  refine ww_istore (L' := [(5, _), (0, _), (1, _), (2, _), (3, _), (4, _)]) G d_M_give_1 (by decide) rfl ?_
  refine ww_iconst (v := (0 : Int32)) G d_M_give_3 ic_0 ?_
  refine ww_istore (L' := [(6, _), (5, _), (0, _), (1, _), (2, _), (3, _), (4, _)]) G d_M_give_4 (by decide) rfl ?_
  refine ww_sub [2, 3, 4, 5, 6, 1, 0] rfl ?_
  refine lp_M_give_6_ok x1 x2 x3 x4 _ G E (fun x5_6 s6 h => ?_) FU _ _ _ h
  refine ww_iload 0 G d_M_give_103 rfl ?_
  exact ww_iret G E d_M_give_105 h
def f_M_meeting (x1 : Int32) (x2 : Int32) (x3 : Int32) (s : Mem) : RR :=
  mm_cI (f_M_isBus x1 s) fun v2 s2 =>
  mm_jn (fun (y29 : Int32) s29 =>
    mm_pf s29 30 0 31 y29 fun s29 =>
    mm_pf s29 30 0 35 ((-1 : Int32)) fun s34 =>
    mm_gf s34 30 0 31 fun v38 =>
    if v38 = 0 then (
      mm_cV (f_M_exchangeNews x1 x2 s34) fun s49 =>
      mm_cV (f_M_settle x1 x2 s49) fun s55 =>
      mm_cI (f_M_give x1 x2 x3 ((0 : Int32)) s55) fun v63 s63 =>
      mm_cI (f_M_give x2 x1 x3 ((64 : Int32)) s63) fun v76 s76 =>
      mm_ri (v63 + v76) s76
    ) else (
      mm_ri ((0 : Int32)) s34
    )
  ) (fun r29 =>
  if v2 = 0 then (
    r29 ((1 : Int32)) s2
  ) else (
    mm_cI (f_M_isKiosk x2 s2) fun v9 s9 =>
    if v9 = 0 then (
      r29 ((1 : Int32)) s9
    ) else (
      mm_cI (f_M_upTo x3 ((40 : Int32)) s9) fun v18 s18 =>
      if v18 = 0 then (
        r29 ((1 : Int32)) s18
      ) else (
        r29 ((0 : Int32)) s18
      )
    )
  ))
set_option maxRecDepth 100000 in
set_option maxHeartbeats 4000000 in
theorem c_M_meeting {l : Launch} {K : KK} (x1 : Int32) (x2 : Int32) (x3 : Int32)  (s : Mem) (o : Oc) (q : Mem) (h : f_M_meeting x1 x2 x3 s = some (o, q)) : Ct l K y_M_meeting b_M_meeting 5 (some .int) 5 127 [.ref (aa K 30 0), .int x1, .int x2, .int x3] s o q := by
  refine Ct_of (own := "VillageMailModel") (L := [(0, _), (1, _), (2, _), (3, _)]) (by decide +kernel) rfl (Nat.le_of_ble_eq_true rfl) rfl (fun Γ G E => ?_)
  unfold f_M_meeting at h
  refine ww_aload_n 0 G d_M_meeting_0 rfl rfl ?_
  refine ww_iload_n 1 G d_M_meeting_1 rfl rfl ?_
  refine ww_csI (As := [_]) G E cs_M_115 (fun o q h => c_M_isBus x1 _ _ _ h) rfl rfl (Nat.le_of_ble_eq_true rfl) d_M_meeting_2 (by decide) h (fun v2 s2 h => ?_)
  refine ww_jn h (fun (y29 : Int32) (s29 : Mem) => WW K Γ 0 s29 29 [(0, .ref (aa K 30 0)), (1, .int x1), (2, .int x2), (3, .int x3)] [.int y29, .ref (aa K 30 0)]) (fun y29 s29 h => ?_) (fun r29 J29 h => ?_)
  · skip
    refine ww_putf G fs_M_104 (by decide) d_M_meeting_29 h (fun s29 h => ?_)
    refine ww_aload_n 0 G d_M_meeting_32 rfl rfl ?_
    refine ww_iconst (v := (-1 : Int32)) G d_M_meeting_33 ic_m1 ?_
    refine ww_putf G fs_M_198 (by decide) d_M_meeting_34 h (fun s34 h => ?_)
    refine ww_aload_n 0 G d_M_meeting_37 rfl rfl ?_
    refine ww_getf G fs_M_104 (by decide) d_M_meeting_38 h (fun v38 h => ?_)
    refine ww_ifeq (tgt := 46) G d_M_meeting_41 (by decide) h (fun h => ?_) (fun h => ?_)
    · skip
      refine ww_aload_n 0 G d_M_meeting_46 rfl rfl ?_
      refine ww_iload_n 1 G d_M_meeting_47 rfl rfl ?_
      refine ww_iload_n 2 G d_M_meeting_48 rfl rfl ?_
      refine ww_cvV (As := [_, _]) G E cs_M_208 (by decide) (fun o q h => c_M_exchangeNews x1 x2 _ _ _ h) rfl rfl (Nat.le_of_ble_eq_true rfl) d_M_meeting_49 (by decide) h (fun s49 h => ?_)
      refine ww_aload_n 0 G d_M_meeting_52 rfl rfl ?_
      refine ww_iload_n 1 G d_M_meeting_53 rfl rfl ?_
      refine ww_iload_n 2 G d_M_meeting_54 rfl rfl ?_
      refine ww_cvV (As := [_, _]) G E cs_M_211 (by decide) (fun o q h => c_M_settle x1 x2 _ _ _ h) rfl rfl (Nat.le_of_ble_eq_true rfl) d_M_meeting_55 (by decide) h (fun s55 h => ?_)
      refine ww_aload_n 0 G d_M_meeting_58 rfl rfl ?_
      refine ww_iload_n 1 G d_M_meeting_59 rfl rfl ?_
      refine ww_iload_n 2 G d_M_meeting_60 rfl rfl ?_
      refine ww_iload_n 3 G d_M_meeting_61 rfl rfl ?_
      refine ww_iconst (v := (0 : Int32)) G d_M_meeting_62 ic_0 ?_
      refine ww_cvI (As := [_, _, _, _]) G E cs_M_214 (by decide) (fun o q h => c_M_give x1 x2 x3 ((0 : Int32)) _ _ _ h) rfl rfl (Nat.le_of_ble_eq_true rfl) d_M_meeting_63 (by decide) h (fun v63 s63 h => ?_)
      refine ww_istore (L' := [(4, _), (0, _), (1, _), (2, _), (3, _)]) G d_M_meeting_66 (by decide) rfl ?_
      refine ww_iload 0 G d_M_meeting_68 rfl ?_
      refine ww_aload_n 1 G d_M_meeting_70 rfl rfl ?_
      refine ww_iload_n 3 G d_M_meeting_71 rfl rfl ?_
      refine ww_iload_n 2 G d_M_meeting_72 rfl rfl ?_
      refine ww_iload_n 4 G d_M_meeting_73 rfl rfl ?_
      refine ww_bipush (v := (64 : Int32)) G d_M_meeting_74 ib_64 ?_
      refine ww_cvI (As := [_, _, _, _]) G E cs_M_214 (by decide) (fun o q h => c_M_give x2 x1 x3 ((64 : Int32)) _ _ _ h) rfl rfl (Nat.le_of_ble_eq_true rfl) d_M_meeting_76 (by decide) h (fun v76 s76 h => ?_)
      refine ww_iadd G d_M_meeting_79 ?_
      exact ww_iret G E d_M_meeting_80 h
    · skip
      refine ww_iconst (v := (0 : Int32)) G d_M_meeting_44 ic_0 ?_
      exact ww_iret G E d_M_meeting_45 h
  refine ww_ifeq (tgt := 28) G d_M_meeting_5 (by decide) h (fun h => ?_) (fun h => ?_)
  · skip
    refine ww_iconst (v := (1 : Int32)) G d_M_meeting_28 ic_1 ?_
    exact J29 _ _ h
  · skip
    refine ww_iload_n 2 G d_M_meeting_8 rfl rfl ?_
    refine ww_csI (As := [_]) G E cs_M_119 (fun o q h => c_M_isKiosk x2 _ _ _ h) rfl rfl (Nat.le_of_ble_eq_true rfl) d_M_meeting_9 (by decide) h (fun v9 s9 h => ?_)
    refine ww_ifeq (tgt := 28) G d_M_meeting_12 (by decide) h (fun h => ?_) (fun h => ?_)
    · skip
      refine ww_iconst (v := (1 : Int32)) G d_M_meeting_28 ic_1 ?_
      exact J29 _ _ h
    · skip
      refine ww_iload_n 3 G d_M_meeting_15 rfl rfl ?_
      refine ww_bipush (v := (40 : Int32)) G d_M_meeting_16 ib_40 ?_
      refine ww_csI (As := [_, _]) G E cs_M_108 (fun o q h => c_M_upTo x3 ((40 : Int32)) _ _ _ h) rfl rfl (Nat.le_of_ble_eq_true rfl) d_M_meeting_18 (by decide) h (fun v18 s18 h => ?_)
      refine ww_ifeq (tgt := 28) G d_M_meeting_21 (by decide) h (fun h => ?_) (fun h => ?_)
      · skip
        refine ww_iconst (v := (1 : Int32)) G d_M_meeting_28 ic_1 ?_
        exact J29 _ _ h
      · skip
        refine ww_iconst (v := (0 : Int32)) G d_M_meeting_24 ic_0 ?_
        refine ww_goto (tgt := 29) G d_M_meeting_25 (by decide) ?_
        exact J29 _ _ h
def f_M_meet (x1 : Int32) (x2 : Int32) (x3 : Int32) (s : Mem) : RR :=
  mm_cI (f_M_meeting x1 x2 x3 s) fun v4 s4 =>
  mm_ri v4 s4
set_option maxRecDepth 100000 in
set_option maxHeartbeats 4000000 in
theorem c_M_meet {l : Launch} {K : KK} (x1 : Int32) (x2 : Int32) (x3 : Int32)  (s : Mem) (o : Oc) (q : Mem) (h : f_M_meet x1 x2 x3 s = some (o, q)) : Ct l K y_M_meet b_M_meet 4 (some .int) 6 151 [.ref (aa K 30 0), .int x1, .int x2, .int x3] s o q := by
  refine Ct_of (own := "VillageMailModel") (L := [(0, _), (1, _), (2, _), (3, _)]) (by decide +kernel) rfl (Nat.le_of_ble_eq_true rfl) rfl (fun Γ G E => ?_)
  unfold f_M_meet at h
  refine ww_aload_n 0 G d_M_meet_0 rfl rfl ?_
  refine ww_iload_n 1 G d_M_meet_1 rfl rfl ?_
  refine ww_iload_n 2 G d_M_meet_2 rfl rfl ?_
  refine ww_iload_n 3 G d_M_meet_3 rfl rfl ?_
  refine ww_cvI (As := [_, _, _]) G E cs_M_217 (by decide) (fun o q h => c_M_meeting x1 x2 x3 _ _ _ h) rfl rfl (Nat.le_of_ble_eq_true rfl) d_M_meet_4 (by decide) h (fun v4 s4 h => ?_)
  exact ww_iret G E d_M_meet_7 h
def lp_M_breakOff_58 (x4 : Int32) (k : Mem → RR) : Nat → Int32 → Mem → RR
  | 0, _, _ => none
  | n + 1, x5, s =>
    if ((8 : Int32)) ≤ x5 then (
      k s
    ) else (
      mm_gf s 30 0 35 fun v72 =>
      mm_ld s 61 0 8 x5 fun v85 =>
      mm_st s 49 0 6144 ((((8 : Int32)) * v72) + x5) v85 fun s86 =>
      lp_M_breakOff_58 x4 k n (x5 + (1 : Int32)) s86
    )
set_option maxRecDepth 100000 in
set_option maxHeartbeats 4000000 in
theorem lp_M_breakOff_58_ok {K : KK} {Γ : Cx} {o : Oc} {q : Mem} (x4 : Int32)  (k : Mem → RR) (G : Good K Γ b_M_breakOff "VillageMailModel" 6 6 151) (E : Ends K Γ (some .int) o q)
    (Kx : ∀  (s : Mem), k s = some (o, q) → WW K Γ 0 s 93 [(4, .int x4)] []) :
    ∀ (n : Nat) (x5 : Int32) (s : Mem), lp_M_breakOff_58 x4 k n x5 s = some (o, q) → WW K Γ 0 s 58 [(0, .ref (aa K 30 0)), (4, .int x4), (5, .int x5)] [] := by
  intro n
  induction n with
  | zero => intro _ _ h; exact nomatch h
  | succ n ih =>
    intro x5 s h
    unfold lp_M_breakOff_58 at h
    refine ww_iload 2 G d_M_breakOff_58 rfl ?_
    refine ww_bipush (v := (8 : Int32)) G d_M_breakOff_60 ib_8 ?_
    refine ww_icmpge (tgt := 93) G d_M_breakOff_62 (by decide) h (fun h => ?_) (fun h => ?_)
    · skip
      refine ww_sub [1] rfl ?_
      exact Kx  _ h
    · skip
      refine ww_aload_n 0 G d_M_breakOff_65 rfl rfl ?_
      refine ww_getr G fs_M_65 (by decide) d_M_breakOff_66 ?_
      refine ww_bipush (v := (8 : Int32)) G d_M_breakOff_69 ib_8 ?_
      refine ww_aload_n 0 G d_M_breakOff_71 rfl rfl ?_
      refine ww_getf G fs_M_198 (by decide) d_M_breakOff_72 h (fun v72 h => ?_)
      refine ww_imul G d_M_breakOff_75 ?_
      refine ww_iload 2 G d_M_breakOff_76 rfl ?_
      refine ww_iadd G d_M_breakOff_78 ?_
      refine ww_aload_n 0 G d_M_breakOff_79 rfl rfl ?_
      refine ww_getr G fs_M_101 (by decide) d_M_breakOff_80 ?_
      refine ww_iload 2 G d_M_breakOff_83 rfl ?_
      refine ww_iaload G ar_61 (by decide) d_M_breakOff_85 h (fun v85 h => ?_)
      refine ww_iastore G ar_49 (by decide) d_M_breakOff_86 h (fun s86 h => ?_)
      refine ww_iinc 2 (L' := [(5, _), (0, _), (4, _)]) G d_M_breakOff_87 rfl ic_1 (by decide) rfl ?_
      refine ww_goto (tgt := 58) G d_M_breakOff_90 (by decide) ?_
      refine ww_sub [1, 2, 0] rfl ?_
      exact ih _ _ h
def f_M_breakOff (x1 : Int32) (x2 : Int32) (x3 : Int32) (s : Mem) : RR :=
  mm_cI (f_M_meeting x1 x2 x3 s) fun v4 s4 =>
  mm_gf s4 30 0 35 fun v10 =>
  if 0 ≤ v10 then (
    mm_gf s4 30 0 35 fun v24 =>
    mm_sz s4 46 0 768 v24 ((1 : Int32)) fun s28 =>
    mm_gf s28 30 0 35 fun v34 =>
    mm_gf s28 30 0 36 fun v38 =>
    mm_st s28 47 0 768 v34 v38 fun s41 =>
    mm_gf s41 30 0 35 fun v47 =>
    mm_gf s41 30 0 36 fun v51 =>
    mm_st s41 48 0 768 v47 v51 fun s54 =>
    mm_lp (fun kk => lp_M_breakOff_58 v4 kk FU ((0 : Int32)) s54) fun s58 =>
    mm_ri v4 s58
  ) else (
    mm_ri v4 s4
  )
set_option maxRecDepth 100000 in
set_option maxHeartbeats 4000000 in
theorem c_M_breakOff {l : Launch} {K : KK} (x1 : Int32) (x2 : Int32) (x3 : Int32)  (s : Mem) (o : Oc) (q : Mem) (h : f_M_breakOff x1 x2 x3 s = some (o, q)) : Ct l K y_M_breakOff b_M_breakOff 6 (some .int) 6 151 [.ref (aa K 30 0), .int x1, .int x2, .int x3] s o q := by
  refine Ct_of (own := "VillageMailModel") (L := [(0, _), (1, _), (2, _), (3, _)]) (by decide +kernel) rfl (Nat.le_of_ble_eq_true rfl) rfl (fun Γ G E => ?_)
  unfold f_M_breakOff at h
  refine ww_aload_n 0 G d_M_breakOff_0 rfl rfl ?_
  refine ww_iload_n 1 G d_M_breakOff_1 rfl rfl ?_
  refine ww_iload_n 2 G d_M_breakOff_2 rfl rfl ?_
  refine ww_iload_n 3 G d_M_breakOff_3 rfl rfl ?_
  refine ww_cvI (As := [_, _, _]) G E cs_M_217 (by decide) (fun o q h => c_M_meeting x1 x2 x3 _ _ _ h) rfl rfl (Nat.le_of_ble_eq_true rfl) d_M_breakOff_4 (by decide) h (fun v4 s4 h => ?_)
  refine ww_istore (L' := [(4, _), (0, _), (1, _), (2, _), (3, _)]) G d_M_breakOff_7 (by decide) rfl ?_
  refine ww_aload_n 1 G d_M_breakOff_9 rfl rfl ?_
  refine ww_getf G fs_M_198 (by decide) d_M_breakOff_10 h (fun v10 h => ?_)
  refine ww_ifge (tgt := 19) G d_M_breakOff_13 (by decide) h (fun h => ?_) (fun h => ?_)
  · skip
    refine ww_aload_n 1 G d_M_breakOff_19 rfl rfl ?_
    refine ww_getr G fs_M_56 (by decide) d_M_breakOff_20 ?_
    refine ww_aload_n 1 G d_M_breakOff_23 rfl rfl ?_
    refine ww_getf G fs_M_198 (by decide) d_M_breakOff_24 h (fun v24 h => ?_)
    refine ww_iconst (v := (1 : Int32)) G d_M_breakOff_27 ic_1 ?_
    refine ww_bastore G ar_46 (by decide) d_M_breakOff_28 h (fun s28 h => ?_)
    refine ww_aload_n 1 G d_M_breakOff_29 rfl rfl ?_
    refine ww_getr G fs_M_59 (by decide) d_M_breakOff_30 ?_
    refine ww_aload_n 1 G d_M_breakOff_33 rfl rfl ?_
    refine ww_getf G fs_M_198 (by decide) d_M_breakOff_34 h (fun v34 h => ?_)
    refine ww_aload_n 1 G d_M_breakOff_37 rfl rfl ?_
    refine ww_getf G fs_M_201 (by decide) d_M_breakOff_38 h (fun v38 h => ?_)
    refine ww_iastore G ar_47 (by decide) d_M_breakOff_41 h (fun s41 h => ?_)
    refine ww_aload_n 1 G d_M_breakOff_42 rfl rfl ?_
    refine ww_getr G fs_M_62 (by decide) d_M_breakOff_43 ?_
    refine ww_aload_n 1 G d_M_breakOff_46 rfl rfl ?_
    refine ww_getf G fs_M_198 (by decide) d_M_breakOff_47 h (fun v47 h => ?_)
    refine ww_aload_n 1 G d_M_breakOff_50 rfl rfl ?_
    refine ww_getf G fs_M_201 (by decide) d_M_breakOff_51 h (fun v51 h => ?_)
    refine ww_iastore G ar_48 (by decide) d_M_breakOff_54 h (fun s54 h => ?_)
    refine ww_iconst (v := (0 : Int32)) G d_M_breakOff_55 ic_0 ?_
    refine ww_istore (L' := [(5, _), (4, _), (0, _), (1, _), (2, _), (3, _)]) G d_M_breakOff_56 (by decide) rfl ?_
    refine ww_sub [2, 1, 0] rfl ?_
    refine lp_M_breakOff_58_ok v4 _ G E (fun s58 h => ?_) FU _ _ h
    refine ww_iload 0 G d_M_breakOff_93 rfl ?_
    exact ww_iret G E d_M_breakOff_95 h
  · skip
    refine ww_iload 0 G d_M_breakOff_16 rfl ?_
    exact ww_iret G E d_M_breakOff_18 h
def lp_M_reboot_31 (x1 : Int32) (k : Mem → RR) : Nat → Int32 → Mem → RR
  | 0, _, _ => none
  | n + 1, x2, s =>
    if ((((64 : Int32)) * x1) + ((64 : Int32))) ≤ x2 then (
      k s
    ) else (
      mm_ld s 46 0 768 x2 fun v47 =>
      if ¬ v47 = 0 then (
        lp_M_reboot_31 x1 k n (x2 + (1 : Int32)) s
      ) else (
        mm_st s 48 0 768 x2 ((0 : Int32)) fun s57 =>
        lp_M_reboot_31 x1 k n (x2 + (1 : Int32)) s57
      )
    )
set_option maxRecDepth 100000 in
set_option maxHeartbeats 4000000 in
theorem lp_M_reboot_31_ok {K : KK} {Γ : Cx} {o : Oc} {q : Mem} (x1 : Int32)  (k : Mem → RR) (G : Good K Γ b_M_reboot "VillageMailModel" 3 1 21) (E : Ends K Γ none o q)
    (Kx : ∀  (s : Mem), k s = some (o, q) → WW K Γ 0 s 64 [(0, .ref (aa K 30 0)), (1, .int x1)] []) :
    ∀ (n : Nat) (x2 : Int32) (s : Mem), lp_M_reboot_31 x1 k n x2 s = some (o, q) → WW K Γ 0 s 31 [(0, .ref (aa K 30 0)), (1, .int x1), (2, .int x2)] [] := by
  intro n
  induction n with
  | zero => intro _ _ h; exact nomatch h
  | succ n ih =>
    intro x2 s h
    unfold lp_M_reboot_31 at h
    refine ww_iload_n 2 G d_M_reboot_31 rfl rfl ?_
    refine ww_bipush (v := (64 : Int32)) G d_M_reboot_32 ib_64 ?_
    refine ww_iload_n 1 G d_M_reboot_34 rfl rfl ?_
    refine ww_imul G d_M_reboot_35 ?_
    refine ww_bipush (v := (64 : Int32)) G d_M_reboot_36 ib_64 ?_
    refine ww_iadd G d_M_reboot_38 ?_
    refine ww_icmpge (tgt := 64) G d_M_reboot_39 (by decide) h (fun h => ?_) (fun h => ?_)
    · skip
      refine ww_sub [0, 1] rfl ?_
      exact Kx  _ h
    · skip
      refine ww_aload_n 0 G d_M_reboot_42 rfl rfl ?_
      refine ww_getr G fs_M_56 (by decide) d_M_reboot_43 ?_
      refine ww_iload_n 2 G d_M_reboot_46 rfl rfl ?_
      refine ww_baload G ar_46 (by decide) d_M_reboot_47 h (fun v47 h => ?_)
      refine ww_ifne (tgt := 58) G d_M_reboot_48 (by decide) h (fun h => ?_) (fun h => ?_)
      · skip
        refine ww_iinc 2 (L' := [(2, _), (0, _), (1, _)]) G d_M_reboot_58 rfl ic_1 (by decide) rfl ?_
        refine ww_goto (tgt := 31) G d_M_reboot_61 (by decide) ?_
        refine ww_sub [1, 2, 0] rfl ?_
        exact ih _ _ h
      · skip
        refine ww_aload_n 0 G d_M_reboot_51 rfl rfl ?_
        refine ww_getr G fs_M_62 (by decide) d_M_reboot_52 ?_
        refine ww_iload_n 2 G d_M_reboot_55 rfl rfl ?_
        refine ww_iconst (v := (0 : Int32)) G d_M_reboot_56 ic_0 ?_
        refine ww_iastore G ar_48 (by decide) d_M_reboot_57 h (fun s57 h => ?_)
        refine ww_iinc 2 (L' := [(2, _), (0, _), (1, _)]) G d_M_reboot_58 rfl ic_1 (by decide) rfl ?_
        refine ww_goto (tgt := 31) G d_M_reboot_61 (by decide) ?_
        refine ww_sub [1, 2, 0] rfl ?_
        exact ih _ _ h
def lp_M_reboot_66 (x1 : Int32) (k : Mem → RR) : Nat → Int32 → Mem → RR
  | 0, _, _ => none
  | n + 1, x2, s =>
    mm_gf s 30 0 7 fun v68 =>
    if v68 ≤ x2 then (
      k s
    ) else (
      mm_ld s 39 0 16 x2 fun v79 =>
      if v79 = x1 then (
        lp_M_reboot_66 x1 k n (x2 + (1 : Int32)) s
      ) else (
        mm_ld s 38 0 16 x2 fun v89 =>
        if v89 = x1 then (
          lp_M_reboot_66 x1 k n (x2 + (1 : Int32)) s
        ) else (
          mm_st s 50 0 192 ((((16 : Int32)) * x1) + x2) ((0 : Int32)) fun s105 =>
          lp_M_reboot_66 x1 k n (x2 + (1 : Int32)) s105
        )
      )
    )
set_option maxRecDepth 100000 in
set_option maxHeartbeats 4000000 in
theorem lp_M_reboot_66_ok {K : KK} {Γ : Cx} {o : Oc} {q : Mem} (x1 : Int32)  (k : Mem → RR) (G : Good K Γ b_M_reboot "VillageMailModel" 3 1 21) (E : Ends K Γ none o q)
    (Kx : ∀  (s : Mem), k s = some (o, q) → WW K Γ 0 s 112 [(0, .ref (aa K 30 0)), (1, .int x1)] []) :
    ∀ (n : Nat) (x2 : Int32) (s : Mem), lp_M_reboot_66 x1 k n x2 s = some (o, q) → WW K Γ 0 s 66 [(0, .ref (aa K 30 0)), (1, .int x1), (2, .int x2)] [] := by
  intro n
  induction n with
  | zero => intro _ _ h; exact nomatch h
  | succ n ih =>
    intro x2 s h
    unfold lp_M_reboot_66 at h
    refine ww_iload_n 2 G d_M_reboot_66 rfl rfl ?_
    refine ww_aload_n 0 G d_M_reboot_67 rfl rfl ?_
    refine ww_getf G fs_M_112 (by decide) d_M_reboot_68 h (fun v68 h => ?_)
    refine ww_icmpge (tgt := 112) G d_M_reboot_71 (by decide) h (fun h => ?_) (fun h => ?_)
    · skip
      refine ww_sub [0, 1] rfl ?_
      exact Kx  _ h
    · skip
      refine ww_aload_n 0 G d_M_reboot_74 rfl rfl ?_
      refine ww_getr G fs_M_34 (by decide) d_M_reboot_75 ?_
      refine ww_iload_n 2 G d_M_reboot_78 rfl rfl ?_
      refine ww_iaload G ar_39 (by decide) d_M_reboot_79 h (fun v79 h => ?_)
      refine ww_iload_n 1 G d_M_reboot_80 rfl rfl ?_
      refine ww_icmpeq (tgt := 106) G d_M_reboot_81 (by decide) h (fun h => ?_) (fun h => ?_)
      · skip
        refine ww_iinc 2 (L' := [(2, _), (0, _), (1, _)]) G d_M_reboot_106 rfl ic_1 (by decide) rfl ?_
        refine ww_goto (tgt := 66) G d_M_reboot_109 (by decide) ?_
        refine ww_sub [1, 2, 0] rfl ?_
        exact ih _ _ h
      · skip
        refine ww_aload_n 0 G d_M_reboot_84 rfl rfl ?_
        refine ww_getr G fs_M_31 (by decide) d_M_reboot_85 ?_
        refine ww_iload_n 2 G d_M_reboot_88 rfl rfl ?_
        refine ww_iaload G ar_38 (by decide) d_M_reboot_89 h (fun v89 h => ?_)
        refine ww_iload_n 1 G d_M_reboot_90 rfl rfl ?_
        refine ww_icmpeq (tgt := 106) G d_M_reboot_91 (by decide) h (fun h => ?_) (fun h => ?_)
        · skip
          refine ww_iinc 2 (L' := [(2, _), (0, _), (1, _)]) G d_M_reboot_106 rfl ic_1 (by decide) rfl ?_
          refine ww_goto (tgt := 66) G d_M_reboot_109 (by decide) ?_
          refine ww_sub [1, 2, 0] rfl ?_
          exact ih _ _ h
        · skip
          refine ww_aload_n 0 G d_M_reboot_94 rfl rfl ?_
          refine ww_getr G fs_M_68 (by decide) d_M_reboot_95 ?_
          refine ww_bipush (v := (16 : Int32)) G d_M_reboot_98 ib_16 ?_
          refine ww_iload_n 1 G d_M_reboot_100 rfl rfl ?_
          refine ww_imul G d_M_reboot_101 ?_
          refine ww_iload_n 2 G d_M_reboot_102 rfl rfl ?_
          refine ww_iadd G d_M_reboot_103 ?_
          refine ww_iconst (v := (0 : Int32)) G d_M_reboot_104 ic_0 ?_
          refine ww_iastore G ar_50 (by decide) d_M_reboot_105 h (fun s105 h => ?_)
          refine ww_iinc 2 (L' := [(2, _), (0, _), (1, _)]) G d_M_reboot_106 rfl ic_1 (by decide) rfl ?_
          refine ww_goto (tgt := 66) G d_M_reboot_109 (by decide) ?_
          refine ww_sub [1, 2, 0] rfl ?_
          exact ih _ _ h
def f_M_reboot (x1 : Int32) (s : Mem) : RR :=
  mm_cI (f_M_upTo x1 ((11 : Int32)) s) fun v4 s4 =>
  mm_jn (fun (y15 : Int32) s15 =>
    mm_pf s15 30 0 31 y15 fun s15 =>
    mm_gf s15 30 0 31 fun v19 =>
    if v19 = 0 then (
      mm_lp (fun kk => lp_M_reboot_31 x1 kk FU (((64 : Int32)) * x1) s15) fun s31 =>
      mm_lp (fun kk => lp_M_reboot_66 x1 kk FU ((0 : Int32)) s31) fun s66 =>
      mm_st s66 35 0 12 x1 ((0 : Int32)) fun s118 =>
      mm_rv s118
    ) else (
      mm_rv s15
    )
  ) (fun r15 =>
  if v4 = 0 then (
    r15 ((1 : Int32)) s4
  ) else (
    r15 ((0 : Int32)) s4
  ))
set_option maxRecDepth 100000 in
set_option maxHeartbeats 4000000 in
theorem c_M_reboot {l : Launch} {K : KK} (x1 : Int32)  (s : Mem) (o : Oc) (q : Mem) (h : f_M_reboot x1 s = some (o, q)) : Ct l K y_M_reboot b_M_reboot 3 none 1 21 [.ref (aa K 30 0), .int x1] s o q := by
  refine Ct_of (own := "VillageMailModel") (L := [(0, _), (1, _)]) (by decide +kernel) rfl (Nat.le_of_ble_eq_true rfl) rfl (fun Γ G E => ?_)
  unfold f_M_reboot at h
  refine ww_aload_n 0 G d_M_reboot_0 rfl rfl ?_
  refine ww_iload_n 1 G d_M_reboot_1 rfl rfl ?_
  refine ww_bipush (v := (11 : Int32)) G d_M_reboot_2 ib_11 ?_
  refine ww_csI (As := [_, _]) G E cs_M_108 (fun o q h => c_M_upTo x1 ((11 : Int32)) _ _ _ h) rfl rfl (Nat.le_of_ble_eq_true rfl) d_M_reboot_4 (by decide) h (fun v4 s4 h => ?_)
  refine ww_jn h (fun (y15 : Int32) (s15 : Mem) => WW K Γ 0 s15 15 [(0, .ref (aa K 30 0)), (1, .int x1)] [.int y15, .ref (aa K 30 0)]) (fun y15 s15 h => ?_) (fun r15 J15 h => ?_)
  · skip
    refine ww_putf G fs_M_104 (by decide) d_M_reboot_15 h (fun s15 h => ?_)
    refine ww_aload_n 0 G d_M_reboot_18 rfl rfl ?_
    refine ww_getf G fs_M_104 (by decide) d_M_reboot_19 h (fun v19 h => ?_)
    refine ww_ifeq (tgt := 26) G d_M_reboot_22 (by decide) h (fun h => ?_) (fun h => ?_)
    · skip
      refine ww_bipush (v := (64 : Int32)) G d_M_reboot_26 ib_64 ?_
      refine ww_iload_n 1 G d_M_reboot_28 rfl rfl ?_
      refine ww_imul G d_M_reboot_29 ?_
      refine ww_istore_n (L' := [(2, _), (0, _), (1, _)]) G d_M_reboot_30 rfl (by decide) rfl ?_
      refine ww_sub [1, 2, 0] rfl ?_
      refine lp_M_reboot_31_ok x1 _ G E (fun s31 h => ?_) FU _ _ h
      refine ww_iconst (v := (0 : Int32)) G d_M_reboot_64 ic_0 ?_
      refine ww_istore_n (L' := [(2, _), (0, _), (1, _)]) G d_M_reboot_65 rfl (by decide) rfl ?_
      refine ww_sub [1, 2, 0] rfl ?_
      refine lp_M_reboot_66_ok x1 _ G E (fun s66 h => ?_) FU _ _ h
      refine ww_aload_n 0 G d_M_reboot_112 rfl rfl ?_
      refine ww_getr G fs_M_22 (by decide) d_M_reboot_113 ?_
      refine ww_iload_n 1 G d_M_reboot_116 rfl rfl ?_
      refine ww_iconst (v := (0 : Int32)) G d_M_reboot_117 ic_0 ?_
      refine ww_iastore G ar_35 (by decide) d_M_reboot_118 h (fun s118 h => ?_)
      exact ww_vret G E d_M_reboot_119 h
    · skip
      exact ww_vret G E d_M_reboot_25 h
  refine ww_ifeq (tgt := 14) G d_M_reboot_7 (by decide) h (fun h => ?_) (fun h => ?_)
  · skip
    refine ww_iconst (v := (1 : Int32)) G d_M_reboot_14 ic_1 ?_
    exact J15 _ _ h
  · skip
    refine ww_iconst (v := (0 : Int32)) G d_M_reboot_10 ic_0 ?_
    refine ww_goto (tgt := 15) G d_M_reboot_11 (by decide) ?_
    exact J15 _ _ h

def lp_M_minute_49 (x1 : Int32) (x2 : Int32) (k : Mem → RR) : Nat → Int32 → Mem → RR
  | 0, _, _ => none
  | n + 1, x3, s =>
    mm_gf s 30 0 7 fun v51 =>
    if v51 ≤ x3 then (
      k s
    ) else (
      mm_ld s 41 0 16 x3 fun v62 =>
      mm_gf s 30 0 5 fun v68 =>
      if ¬ (v62 + ((7200 : Int32))) = v68 then (
        lp_M_minute_49 x1 x2 k n (x3 + (1 : Int32)) s
      ) else (
        mm_cV (f_M_expire x3 s) fun s76 =>
        lp_M_minute_49 x1 x2 k n (x3 + (1 : Int32)) s76
      )
    )
set_option maxRecDepth 100000 in
set_option maxHeartbeats 4000000 in
theorem lp_M_minute_49_ok {K : KK} {Γ : Cx} {o : Oc} {q : Mem} (x1 : Int32) (x2 : Int32)  (k : Mem → RR) (G : Good K Γ b_M_minute "VillageMailModel" 4 3 72) (E : Ends K Γ (some .int) o q)
    (Kx : ∀  (s : Mem), k s = some (o, q) → WW K Γ 0 s 85 [(0, .ref (aa K 30 0)), (1, .int x1), (2, .int x2)] []) :
    ∀ (n : Nat) (x3 : Int32) (s : Mem), lp_M_minute_49 x1 x2 k n x3 s = some (o, q) → WW K Γ 0 s 49 [(0, .ref (aa K 30 0)), (1, .int x1), (2, .int x2), (3, .int x3)] [] := by
  intro n
  induction n with
  | zero => intro _ _ h; exact nomatch h
  | succ n ih =>
    intro x3 s h
    unfold lp_M_minute_49 at h
    refine ww_iload_n 3 G d_M_minute_49 rfl rfl ?_
    refine ww_aload_n 0 G d_M_minute_50 rfl rfl ?_
    refine ww_getf G fs_M_112 (by decide) d_M_minute_51 h (fun v51 h => ?_)
    refine ww_icmpge (tgt := 85) G d_M_minute_54 (by decide) h (fun h => ?_) (fun h => ?_)
    · skip
      refine ww_sub [0, 1, 2] rfl ?_
      exact Kx  _ h
    · skip
      refine ww_aload_n 0 G d_M_minute_57 rfl rfl ?_
      refine ww_getr G fs_M_40 (by decide) d_M_minute_58 ?_
      refine ww_iload_n 3 G d_M_minute_61 rfl rfl ?_
      refine ww_iaload G ar_41 (by decide) d_M_minute_62 h (fun v62 h => ?_)
      refine ww_sipush (v := (7200 : Int32)) G d_M_minute_63 is_7200 ?_
      refine ww_iadd G d_M_minute_66 ?_
      refine ww_aload_n 0 G d_M_minute_67 rfl rfl ?_
      refine ww_getf G fs_M_186 (by decide) d_M_minute_68 h (fun v68 h => ?_)
      refine ww_icmpne (tgt := 79) G d_M_minute_71 (by decide) h (fun h => ?_) (fun h => ?_)
      · skip
        refine ww_iinc 3 (L' := [(3, _), (0, _), (1, _), (2, _)]) G d_M_minute_79 rfl ic_1 (by decide) rfl ?_
        refine ww_goto (tgt := 49) G d_M_minute_82 (by decide) ?_
        refine ww_sub [1, 2, 3, 0] rfl ?_
        exact ih _ _ h
      · skip
        refine ww_aload_n 0 G d_M_minute_74 rfl rfl ?_
        refine ww_iload_n 3 G d_M_minute_75 rfl rfl ?_
        refine ww_cvV (As := [_]) G E cs_M_189 (by decide) (fun o q h => c_M_expire x3 _ _ _ h) rfl rfl (Nat.le_of_ble_eq_true rfl) d_M_minute_76 (by decide) h (fun s76 h => ?_)
        refine ww_iinc 3 (L' := [(3, _), (0, _), (1, _), (2, _)]) G d_M_minute_79 rfl ic_1 (by decide) rfl ?_
        refine ww_goto (tgt := 49) G d_M_minute_82 (by decide) ?_
        refine ww_sub [1, 2, 3, 0] rfl ?_
        exact ih _ _ h
def lp_M_minute_87 (x1 : Int32) (x2 : Int32) (k : Mem → RR) : Nat → Int32 → Mem → RR
  | 0, _, _ => none
  | n + 1, x3, s =>
    mm_gf s 30 0 7 fun v89 =>
    if v89 ≤ x3 then (
      k s
    ) else (
      mm_cV (f_M_lookAt x3 s) fun s97 =>
      lp_M_minute_87 x1 x2 k n (x3 + (1 : Int32)) s97
    )
set_option maxRecDepth 100000 in
set_option maxHeartbeats 4000000 in
theorem lp_M_minute_87_ok {K : KK} {Γ : Cx} {o : Oc} {q : Mem} (x1 : Int32) (x2 : Int32)  (k : Mem → RR) (G : Good K Γ b_M_minute "VillageMailModel" 4 3 72) (E : Ends K Γ (some .int) o q)
    (Kx : ∀  (s : Mem), k s = some (o, q) → WW K Γ 0 s 106 [(0, .ref (aa K 30 0)), (1, .int x1), (2, .int x2)] []) :
    ∀ (n : Nat) (x3 : Int32) (s : Mem), lp_M_minute_87 x1 x2 k n x3 s = some (o, q) → WW K Γ 0 s 87 [(0, .ref (aa K 30 0)), (1, .int x1), (2, .int x2), (3, .int x3)] [] := by
  intro n
  induction n with
  | zero => intro _ _ h; exact nomatch h
  | succ n ih =>
    intro x3 s h
    unfold lp_M_minute_87 at h
    refine ww_iload_n 3 G d_M_minute_87 rfl rfl ?_
    refine ww_aload_n 0 G d_M_minute_88 rfl rfl ?_
    refine ww_getf G fs_M_112 (by decide) d_M_minute_89 h (fun v89 h => ?_)
    refine ww_icmpge (tgt := 106) G d_M_minute_92 (by decide) h (fun h => ?_) (fun h => ?_)
    · skip
      refine ww_sub [0, 1, 2] rfl ?_
      exact Kx  _ h
    · skip
      refine ww_aload_n 0 G d_M_minute_95 rfl rfl ?_
      refine ww_iload_n 3 G d_M_minute_96 rfl rfl ?_
      refine ww_cvV (As := [_]) G E cs_M_173 (by decide) (fun o q h => c_M_lookAt x3 _ _ _ h) rfl rfl (Nat.le_of_ble_eq_true rfl) d_M_minute_97 (by decide) h (fun s97 h => ?_)
      refine ww_iinc 3 (L' := [(3, _), (0, _), (1, _), (2, _)]) G d_M_minute_100 rfl ic_1 (by decide) rfl ?_
      refine ww_goto (tgt := 87) G d_M_minute_103 (by decide) ?_
      refine ww_sub [1, 2, 3, 0] rfl ?_
      exact ih _ _ h
def lp_M_minute_32 (x1 : Int32) (k : Mem → RR) : Nat → Int32 → Mem → RR
  | 0, _, _ => none
  | n + 1, x2, s =>
    if x1 ≤ x2 then (
      k s
    ) else (
      mm_gf s 30 0 5 fun v39 =>
      mm_pf s 30 0 5 (v39 + ((1 : Int32))) fun s44 =>
      mm_lp (fun kk => lp_M_minute_49 x1 x2 kk FU ((0 : Int32)) s44) fun s49 =>
      mm_lp (fun kk => lp_M_minute_87 x1 x2 kk FU ((0 : Int32)) s49) fun s87 =>
      lp_M_minute_32 x1 k n (x2 + (1 : Int32)) s87
    )
set_option maxRecDepth 100000 in
set_option maxHeartbeats 4000000 in
theorem lp_M_minute_32_ok {K : KK} {Γ : Cx} {o : Oc} {q : Mem} (x1 : Int32)  (k : Mem → RR) (G : Good K Γ b_M_minute "VillageMailModel" 4 3 72) (E : Ends K Γ (some .int) o q)
    (Kx : ∀  (s : Mem), k s = some (o, q) → WW K Γ 0 s 112 [(0, .ref (aa K 30 0))] []) :
    ∀ (n : Nat) (x2 : Int32) (s : Mem), lp_M_minute_32 x1 k n x2 s = some (o, q) → WW K Γ 0 s 32 [(0, .ref (aa K 30 0)), (1, .int x1), (2, .int x2)] [] := by
  intro n
  induction n with
  | zero => intro _ _ h; exact nomatch h
  | succ n ih =>
    intro x2 s h
    unfold lp_M_minute_32 at h
    refine ww_iload_n 2 G d_M_minute_32 rfl rfl ?_
    refine ww_iload_n 1 G d_M_minute_33 rfl rfl ?_
    refine ww_icmpge (tgt := 112) G d_M_minute_34 (by decide) h (fun h => ?_) (fun h => ?_)
    · skip
      refine ww_sub [0] rfl ?_
      exact Kx  _ h
    · skip
      refine ww_aload_n 0 G d_M_minute_37 rfl rfl ?_
      refine ww_dup G d_M_minute_38 rfl ?_
      refine ww_getf G fs_M_186 (by decide) d_M_minute_39 h (fun v39 h => ?_)
      refine ww_iconst (v := (1 : Int32)) G d_M_minute_42 ic_1 ?_
      refine ww_iadd G d_M_minute_43 ?_
      refine ww_putf G fs_M_186 (by decide) d_M_minute_44 h (fun s44 h => ?_)
      refine ww_iconst (v := (0 : Int32)) G d_M_minute_47 ic_0 ?_
      refine ww_istore_n (L' := [(3, _), (0, _), (1, _), (2, _)]) G d_M_minute_48 rfl (by decide) rfl ?_
      refine ww_sub [1, 2, 3, 0] rfl ?_
      refine lp_M_minute_49_ok x1 x2 _ G E (fun s49 h => ?_) FU _ _ h
      refine ww_iconst (v := (0 : Int32)) G d_M_minute_85 ic_0 ?_
      refine ww_istore_n (L' := [(3, _), (0, _), (1, _), (2, _)]) G d_M_minute_86 rfl (by decide) rfl ?_
      refine ww_sub [1, 2, 3, 0] rfl ?_
      refine lp_M_minute_87_ok x1 x2 _ G E (fun s87 h => ?_) FU _ _ h
      refine ww_iinc 2 (L' := [(2, _), (0, _), (1, _)]) G d_M_minute_106 rfl ic_1 (by decide) rfl ?_
      refine ww_goto (tgt := 32) G d_M_minute_109 (by decide) ?_
      refine ww_sub [1, 2, 0] rfl ?_
      exact ih _ _ h
def f_M_minute (x1 : Int32) (s : Mem) : RR :=
  mm_jn (fun (y18 : Int32) s18 =>
    mm_pf s18 30 0 31 y18 fun s18 =>
    mm_gf s18 30 0 31 fun v22 =>
    if v22 = 0 then (
      mm_lp (fun kk => lp_M_minute_32 x1 kk FU ((0 : Int32)) s18) fun s32 =>
      mm_gf s32 30 0 5 fun v113 =>
      mm_ri v113 s32
    ) else (
      mm_ri ((0 : Int32)) s18
    )
  ) (fun r18 =>
  if x1 < ((1 : Int32)) then (
    r18 ((1 : Int32)) s
  ) else (
    if ((20000 : Int32)) < x1 then (
      r18 ((1 : Int32)) s
    ) else (
      r18 ((0 : Int32)) s
    )
  ))
set_option maxRecDepth 100000 in
set_option maxHeartbeats 4000000 in
theorem c_M_minute {l : Launch} {K : KK} (x1 : Int32)  (s : Mem) (o : Oc) (q : Mem) (h : f_M_minute x1 s = some (o, q)) : Ct l K y_M_minute b_M_minute 4 (some .int) 3 72 [.ref (aa K 30 0), .int x1] s o q := by
  refine Ct_of (own := "VillageMailModel") (L := [(0, _), (1, _)]) (by decide +kernel) rfl (Nat.le_of_ble_eq_true rfl) rfl (fun Γ G E => ?_)
  unfold f_M_minute at h
  refine ww_aload_n 0 G d_M_minute_0 rfl rfl ?_
  refine ww_iload_n 1 G d_M_minute_1 rfl rfl ?_
  refine ww_iconst (v := (1 : Int32)) G d_M_minute_2 ic_1 ?_
  refine ww_jn h (fun (y18 : Int32) (s18 : Mem) => WW K Γ 0 s18 18 [(0, .ref (aa K 30 0)), (1, .int x1)] [.int y18, .ref (aa K 30 0)]) (fun y18 s18 h => ?_) (fun r18 J18 h => ?_)
  · skip
    refine ww_putf G fs_M_104 (by decide) d_M_minute_18 h (fun s18 h => ?_)
    refine ww_aload_n 0 G d_M_minute_21 rfl rfl ?_
    refine ww_getf G fs_M_104 (by decide) d_M_minute_22 h (fun v22 h => ?_)
    refine ww_ifeq (tgt := 30) G d_M_minute_25 (by decide) h (fun h => ?_) (fun h => ?_)
    · skip
      refine ww_iconst (v := (0 : Int32)) G d_M_minute_30 ic_0 ?_
      refine ww_istore_n (L' := [(2, _), (0, _), (1, _)]) G d_M_minute_31 rfl (by decide) rfl ?_
      refine ww_sub [1, 2, 0] rfl ?_
      refine lp_M_minute_32_ok x1 _ G E (fun s32 h => ?_) FU _ _ h
      refine ww_aload_n 0 G d_M_minute_112 rfl rfl ?_
      refine ww_getf G fs_M_186 (by decide) d_M_minute_113 h (fun v113 h => ?_)
      exact ww_iret G E d_M_minute_116 h
    · skip
      refine ww_iconst (v := (0 : Int32)) G d_M_minute_28 ic_0 ?_
      exact ww_iret G E d_M_minute_29 h
  refine ww_icmplt (tgt := 17) G d_M_minute_3 (by decide) h (fun h => ?_) (fun h => ?_)
  · skip
    refine ww_iconst (v := (1 : Int32)) G d_M_minute_17 ic_1 ?_
    exact J18 _ _ h
  · skip
    refine ww_iload_n 1 G d_M_minute_6 rfl rfl ?_
    refine ww_sipush (v := (20000 : Int32)) G d_M_minute_7 is_20000 ?_
    refine ww_icmpgt (tgt := 17) G d_M_minute_10 (by decide) h (fun h => ?_) (fun h => ?_)
    · skip
      refine ww_iconst (v := (1 : Int32)) G d_M_minute_17 ic_1 ?_
      exact J18 _ _ h
    · skip
      refine ww_iconst (v := (0 : Int32)) G d_M_minute_13 ic_0 ?_
      refine ww_goto (tgt := 18) G d_M_minute_14 (by decide) ?_
      exact J18 _ _ h
def lp_M_exchangeNews_48 (x1 : Int32) (x2 : Int32) (k : Mem → RR) : Nat → Int32 → Mem → RR
  | 0, _, _ => none
  | n + 1, x4, s =>
    if ((64 : Int32)) ≤ x4 then (
      k s
    ) else (
      mm_ld s 48 0 768 ((((64 : Int32)) * x1) + x4) fun v66 =>
      mm_ld s 48 0 768 ((((64 : Int32)) * x2) + x4) fun v80 =>
      mm_jn (fun (y105 : Int32) s105 =>
        mm_cV (f_M_hear ((((64 : Int32)) * x1) + x4) y105 s105) fun s105 =>
        if v66 ≤ v80 then (
          mm_cV (f_M_hear ((((64 : Int32)) * x2) + x4) v80 s105) fun s130 =>
          lp_M_exchangeNews_48 x1 x2 k n (x4 + (1 : Int32)) s130
        ) else (
          mm_cV (f_M_hear ((((64 : Int32)) * x2) + x4) v66 s105) fun s130 =>
          lp_M_exchangeNews_48 x1 x2 k n (x4 + (1 : Int32)) s130
        )
      ) (fun r105 =>
      if v66 ≤ v80 then (
        r105 v80 s
      ) else (
        r105 v66 s
      ))
    )
set_option maxRecDepth 100000 in
set_option maxHeartbeats 4000000 in
theorem lp_M_exchangeNews_48_ok {K : KK} {Γ : Cx} {o : Oc} {q : Mem} (x1 : Int32) (x2 : Int32)  (k : Mem → RR) (G : Good K Γ b_M_exchangeNews "VillageMailModel" 8 2 46) (E : Ends K Γ none o q)
    (Kx : ∀  (s : Mem), k s = some (o, q) → WW K Γ 0 s 139 [(0, .ref (aa K 30 0)), (1, .int x1), (2, .int x2)] []) :
    ∀ (n : Nat) (x4 : Int32) (s : Mem), lp_M_exchangeNews_48 x1 x2 k n x4 s = some (o, q) → WW K Γ 0 s 48 [(0, .ref (aa K 30 0)), (1, .int x1), (2, .int x2), (4, .int x4)] [] := by
  intro n
  induction n with
  | zero => intro _ _ h; exact nomatch h
  | succ n ih =>
    intro x4 s h
    unfold lp_M_exchangeNews_48 at h
    refine ww_iload 3 G d_M_exchangeNews_48 rfl ?_
    refine ww_bipush (v := (64 : Int32)) G d_M_exchangeNews_50 ib_64 ?_
    refine ww_icmpge (tgt := 139) G d_M_exchangeNews_52 (by decide) h (fun h => ?_) (fun h => ?_)
    · skip
      refine ww_sub [0, 1, 2] rfl ?_
      exact Kx  _ h
    · skip
      refine ww_aload_n 0 G d_M_exchangeNews_55 rfl rfl ?_
      refine ww_getr G fs_M_62 (by decide) d_M_exchangeNews_56 ?_
      refine ww_bipush (v := (64 : Int32)) G d_M_exchangeNews_59 ib_64 ?_
      refine ww_iload_n 1 G d_M_exchangeNews_61 rfl rfl ?_
      refine ww_imul G d_M_exchangeNews_62 ?_
      refine ww_iload 3 G d_M_exchangeNews_63 rfl ?_
      refine ww_iadd G d_M_exchangeNews_65 ?_
      refine ww_iaload G ar_48 (by decide) d_M_exchangeNews_66 h (fun v66 h => ?_)
      refine ww_istore (L' := [(5, _), (0, _), (1, _), (2, _), (4, _)]) G d_M_exchangeNews_67 (by decide) rfl ?_
      refine ww_aload_n 1 G d_M_exchangeNews_69 rfl rfl ?_
      refine ww_getr G fs_M_62 (by decide) d_M_exchangeNews_70 ?_
      refine ww_bipush (v := (64 : Int32)) G d_M_exchangeNews_73 ib_64 ?_
      refine ww_iload_n 3 G d_M_exchangeNews_75 rfl rfl ?_
      refine ww_imul G d_M_exchangeNews_76 ?_
      refine ww_iload 4 G d_M_exchangeNews_77 rfl ?_
      refine ww_iadd G d_M_exchangeNews_79 ?_
      refine ww_iaload G ar_48 (by decide) d_M_exchangeNews_80 h (fun v80 h => ?_)
      refine ww_istore (L' := [(6, _), (5, _), (0, _), (1, _), (2, _), (4, _)]) G d_M_exchangeNews_81 (by decide) rfl ?_
      refine ww_aload_n 2 G d_M_exchangeNews_83 rfl rfl ?_
      refine ww_bipush (v := (64 : Int32)) G d_M_exchangeNews_84 ib_64 ?_
      refine ww_iload_n 3 G d_M_exchangeNews_86 rfl rfl ?_
      refine ww_imul G d_M_exchangeNews_87 ?_
      refine ww_iload 5 G d_M_exchangeNews_88 rfl ?_
      refine ww_iadd G d_M_exchangeNews_90 ?_
      refine ww_iload 1 G d_M_exchangeNews_91 rfl ?_
      refine ww_iload 0 G d_M_exchangeNews_93 rfl ?_
      refine ww_jn h (fun (y105 : Int32) (s105 : Mem) => WW K Γ 0 s105 105 [(0, .ref (aa K 30 0)), (1, .int x1), (2, .int x2), (4, .int x4), (5, .int v66), (6, .int v80)] [.int y105, .int ((((64 : Int32)) * x1) + x4), .ref (aa K 30 0)]) (fun y105 s105 h => ?_) (fun r105 J105 h => ?_)
      · skip
        refine ww_cvV (As := [_, _]) G E cs_M_192 (by decide) (fun o q h => c_M_hear ((((64 : Int32)) * x1) + x4) y105 _ _ _ h) rfl rfl (Nat.le_of_ble_eq_true rfl) d_M_exchangeNews_105 (by decide) h (fun s105 h => ?_)
        refine ww_aload_n 0 G d_M_exchangeNews_108 rfl rfl ?_
        refine ww_bipush (v := (64 : Int32)) G d_M_exchangeNews_109 ib_64 ?_
        refine ww_iload_n 2 G d_M_exchangeNews_111 rfl rfl ?_
        refine ww_imul G d_M_exchangeNews_112 ?_
        refine ww_iload 3 G d_M_exchangeNews_113 rfl ?_
        refine ww_iadd G d_M_exchangeNews_115 ?_
        refine ww_iload 4 G d_M_exchangeNews_116 rfl ?_
        refine ww_iload 5 G d_M_exchangeNews_118 rfl ?_
        refine ww_icmple (tgt := 128) G d_M_exchangeNews_120 (by decide) h (fun h => ?_) (fun h => ?_)
        · skip
          refine ww_iload 5 G d_M_exchangeNews_128 rfl ?_
          refine ww_cvV (As := [_, _]) G E cs_M_192 (by decide) (fun o q h => c_M_hear ((((64 : Int32)) * x2) + x4) v80 _ _ _ h) rfl rfl (Nat.le_of_ble_eq_true rfl) d_M_exchangeNews_130 (by decide) h (fun s130 h => ?_)
          refine ww_iinc 3 (L' := [(4, _), (0, _), (1, _), (2, _), (5, _), (6, _)]) G d_M_exchangeNews_133 rfl ic_1 (by decide) rfl ?_
          refine ww_goto (tgt := 48) G d_M_exchangeNews_136 (by decide) ?_
          refine ww_sub [1, 2, 3, 0] rfl ?_
          exact ih _ _ h
        · skip
          refine ww_iload 4 G d_M_exchangeNews_123 rfl ?_
          refine ww_goto (tgt := 130) G d_M_exchangeNews_125 (by decide) ?_
          refine ww_cvV (As := [_, _]) G E cs_M_192 (by decide) (fun o q h => c_M_hear ((((64 : Int32)) * x2) + x4) v66 _ _ _ h) rfl rfl (Nat.le_of_ble_eq_true rfl) d_M_exchangeNews_130 (by decide) h (fun s130 h => ?_)
          refine ww_iinc 3 (L' := [(4, _), (0, _), (1, _), (2, _), (5, _), (6, _)]) G d_M_exchangeNews_133 rfl ic_1 (by decide) rfl ?_
          refine ww_goto (tgt := 48) G d_M_exchangeNews_136 (by decide) ?_
          refine ww_sub [1, 2, 3, 0] rfl ?_
          exact ih _ _ h
      refine ww_icmple (tgt := 103) G d_M_exchangeNews_95 (by decide) h (fun h => ?_) (fun h => ?_)
      · skip
        refine ww_iload 0 G d_M_exchangeNews_103 rfl ?_
        refine ww_sub [2, 3, 4, 5, 1, 0] rfl ?_
        exact J105 _ _ h
      · skip
        refine ww_iload 1 G d_M_exchangeNews_98 rfl ?_
        refine ww_goto (tgt := 105) G d_M_exchangeNews_100 (by decide) ?_
        refine ww_sub [2, 3, 4, 5, 1, 0] rfl ?_
        exact J105 _ _ h
def lp_M_exchangeNews_142 (x1 : Int32) (x2 : Int32) (k : Mem → RR) : Nat → Int32 → Mem → RR
  | 0, _, _ => none
  | n + 1, x4, s =>
    mm_gf s 30 0 7 fun v145 =>
    if v145 ≤ x4 then (
      k s
    ) else (
      mm_ld s 50 0 192 ((((16 : Int32)) * x1) + x4) fun v162 =>
      mm_ld s 50 0 192 ((((16 : Int32)) * x2) + x4) fun v176 =>
      mm_jn (fun (y212 : Int32) s212 =>
        mm_cV (f_M_learn x1 x4 y212 s212) fun s220 =>
        mm_cV (f_M_learn x2 x4 y212 s220) fun s229 =>
        lp_M_exchangeNews_142 x1 x2 k n (x4 + (1 : Int32)) s229
      ) (fun r212 =>
      if v162 = ((1 : Int32)) then (
        r212 ((1 : Int32)) s
      ) else (
        if ¬ v176 = ((1 : Int32)) then (
          if v162 = ((2 : Int32)) then (
            r212 ((2 : Int32)) s
          ) else (
            if ¬ v176 = ((2 : Int32)) then (
              r212 ((0 : Int32)) s
            ) else (
              r212 ((2 : Int32)) s
            )
          )
        ) else (
          r212 ((1 : Int32)) s
        )
      ))
    )
set_option maxRecDepth 100000 in
set_option maxHeartbeats 4000000 in
theorem lp_M_exchangeNews_142_ok {K : KK} {Γ : Cx} {o : Oc} {q : Mem} (x1 : Int32) (x2 : Int32)  (k : Mem → RR) (G : Good K Γ b_M_exchangeNews "VillageMailModel" 8 2 46) (E : Ends K Γ none o q)
    (Kx : ∀  (s : Mem), k s = some (o, q) → WW K Γ 0 s 238 [] []) :
    ∀ (n : Nat) (x4 : Int32) (s : Mem), lp_M_exchangeNews_142 x1 x2 k n x4 s = some (o, q) → WW K Γ 0 s 142 [(0, .ref (aa K 30 0)), (1, .int x1), (2, .int x2), (4, .int x4)] [] := by
  intro n
  induction n with
  | zero => intro _ _ h; exact nomatch h
  | succ n ih =>
    intro x4 s h
    unfold lp_M_exchangeNews_142 at h
    refine ww_iload 3 G d_M_exchangeNews_142 rfl ?_
    refine ww_aload_n 0 G d_M_exchangeNews_144 rfl rfl ?_
    refine ww_getf G fs_M_112 (by decide) d_M_exchangeNews_145 h (fun v145 h => ?_)
    refine ww_icmpge (tgt := 238) G d_M_exchangeNews_148 (by decide) h (fun h => ?_) (fun h => ?_)
    · skip
      refine ww_sub [] rfl ?_
      exact Kx  _ h
    · skip
      refine ww_aload_n 0 G d_M_exchangeNews_151 rfl rfl ?_
      refine ww_getr G fs_M_68 (by decide) d_M_exchangeNews_152 ?_
      refine ww_bipush (v := (16 : Int32)) G d_M_exchangeNews_155 ib_16 ?_
      refine ww_iload_n 1 G d_M_exchangeNews_157 rfl rfl ?_
      refine ww_imul G d_M_exchangeNews_158 ?_
      refine ww_iload 3 G d_M_exchangeNews_159 rfl ?_
      refine ww_iadd G d_M_exchangeNews_161 ?_
      refine ww_iaload G ar_50 (by decide) d_M_exchangeNews_162 h (fun v162 h => ?_)
      refine ww_istore (L' := [(5, _), (0, _), (1, _), (2, _), (4, _)]) G d_M_exchangeNews_163 (by decide) rfl ?_
      refine ww_aload_n 1 G d_M_exchangeNews_165 rfl rfl ?_
      refine ww_getr G fs_M_68 (by decide) d_M_exchangeNews_166 ?_
      refine ww_bipush (v := (16 : Int32)) G d_M_exchangeNews_169 ib_16 ?_
      refine ww_iload_n 3 G d_M_exchangeNews_171 rfl rfl ?_
      refine ww_imul G d_M_exchangeNews_172 ?_
      refine ww_iload 4 G d_M_exchangeNews_173 rfl ?_
      refine ww_iadd G d_M_exchangeNews_175 ?_
      refine ww_iaload G ar_50 (by decide) d_M_exchangeNews_176 h (fun v176 h => ?_)
      refine ww_istore (L' := [(6, _), (5, _), (0, _), (1, _), (2, _), (4, _)]) G d_M_exchangeNews_177 (by decide) rfl ?_
      refine ww_iload 1 G d_M_exchangeNews_179 rfl ?_
      refine ww_iconst (v := (1 : Int32)) G d_M_exchangeNews_181 ic_1 ?_
      refine ww_jn h (fun (y212 : Int32) (s212 : Mem) => WW K Γ 0 s212 212 [(0, .ref (aa K 30 0)), (1, .int x1), (2, .int x2), (4, .int x4)] [.int y212]) (fun y212 s212 h => ?_) (fun r212 J212 h => ?_)
      · skip
        refine ww_istore (L' := [(7, _), (0, _), (1, _), (2, _), (4, _)]) G d_M_exchangeNews_212 (by decide) rfl ?_
        refine ww_aload_n 1 G d_M_exchangeNews_214 rfl rfl ?_
        refine ww_iload_n 2 G d_M_exchangeNews_215 rfl rfl ?_
        refine ww_iload 4 G d_M_exchangeNews_216 rfl ?_
        refine ww_iload 0 G d_M_exchangeNews_218 rfl ?_
        refine ww_cvV (As := [_, _, _]) G E cs_M_163 (by decide) (fun o q h => c_M_learn x1 x4 y212 _ _ _ h) rfl rfl (Nat.le_of_ble_eq_true rfl) d_M_exchangeNews_220 (by decide) h (fun s220 h => ?_)
        refine ww_aload_n 1 G d_M_exchangeNews_223 rfl rfl ?_
        refine ww_iload_n 3 G d_M_exchangeNews_224 rfl rfl ?_
        refine ww_iload 4 G d_M_exchangeNews_225 rfl ?_
        refine ww_iload 0 G d_M_exchangeNews_227 rfl ?_
        refine ww_cvV (As := [_, _, _]) G E cs_M_163 (by decide) (fun o q h => c_M_learn x2 x4 y212 _ _ _ h) rfl rfl (Nat.le_of_ble_eq_true rfl) d_M_exchangeNews_229 (by decide) h (fun s229 h => ?_)
        refine ww_iinc 4 (L' := [(4, _), (7, _), (0, _), (1, _), (2, _)]) G d_M_exchangeNews_232 rfl ic_1 (by decide) rfl ?_
        refine ww_goto (tgt := 142) G d_M_exchangeNews_235 (by decide) ?_
        refine ww_sub [2, 3, 4, 0] rfl ?_
        exact ih _ _ h
      refine ww_icmpeq (tgt := 191) G d_M_exchangeNews_182 (by decide) h (fun h => ?_) (fun h => ?_)
      · skip
        refine ww_iconst (v := (1 : Int32)) G d_M_exchangeNews_191 ic_1 ?_
        refine ww_goto (tgt := 212) G d_M_exchangeNews_192 (by decide) ?_
        refine ww_sub [2, 3, 4, 5] rfl ?_
        exact J212 _ _ h
      · skip
        refine ww_iload 0 G d_M_exchangeNews_185 rfl ?_
        refine ww_iconst (v := (1 : Int32)) G d_M_exchangeNews_187 ic_1 ?_
        refine ww_icmpne (tgt := 195) G d_M_exchangeNews_188 (by decide) h (fun h => ?_) (fun h => ?_)
        · skip
          refine ww_iload 1 G d_M_exchangeNews_195 rfl ?_
          refine ww_iconst (v := (2 : Int32)) G d_M_exchangeNews_197 ic_2 ?_
          refine ww_icmpeq (tgt := 207) G d_M_exchangeNews_198 (by decide) h (fun h => ?_) (fun h => ?_)
          · skip
            refine ww_iconst (v := (2 : Int32)) G d_M_exchangeNews_207 ic_2 ?_
            refine ww_goto (tgt := 212) G d_M_exchangeNews_208 (by decide) ?_
            refine ww_sub [2, 3, 4, 5] rfl ?_
            exact J212 _ _ h
          · skip
            refine ww_iload 0 G d_M_exchangeNews_201 rfl ?_
            refine ww_iconst (v := (2 : Int32)) G d_M_exchangeNews_203 ic_2 ?_
            refine ww_icmpne (tgt := 211) G d_M_exchangeNews_204 (by decide) h (fun h => ?_) (fun h => ?_)
            · skip
              refine ww_iconst (v := (0 : Int32)) G d_M_exchangeNews_211 ic_0 ?_
              refine ww_sub [2, 3, 4, 5] rfl ?_
              exact J212 _ _ h
            · skip
              refine ww_iconst (v := (2 : Int32)) G d_M_exchangeNews_207 ic_2 ?_
              refine ww_goto (tgt := 212) G d_M_exchangeNews_208 (by decide) ?_
              refine ww_sub [2, 3, 4, 5] rfl ?_
              exact J212 _ _ h
        · skip
          refine ww_iconst (v := (1 : Int32)) G d_M_exchangeNews_191 ic_1 ?_
          refine ww_goto (tgt := 212) G d_M_exchangeNews_192 (by decide) ?_
          refine ww_sub [2, 3, 4, 5] rfl ?_
          exact J212 _ _ h
def f_M_exchangeNews (x1 : Int32) (x2 : Int32) (s : Mem) : RR :=
  mm_ld s 35 0 12 x1 fun v5 =>
  mm_ld s 35 0 12 x2 fun v11 =>
  mm_jn (fun (y30 : Int32) s30 =>
    mm_st s30 35 0 12 x1 y30 fun s37 =>
    mm_st s37 35 0 12 x2 y30 fun s44 =>
    mm_lp (fun kk => lp_M_exchangeNews_48 x1 x2 kk FU ((0 : Int32)) s44) fun s48 =>
    mm_lp (fun kk => lp_M_exchangeNews_142 x1 x2 kk FU ((0 : Int32)) s48) fun s142 =>
    mm_rv s142
  ) (fun r30 =>
  if v5 ≤ v11 then (
    mm_ld s 35 0 12 x2 fun v29 =>
    r30 v29 s
  ) else (
    mm_ld s 35 0 12 x1 fun v20 =>
    r30 v20 s
  ))
set_option maxRecDepth 100000 in
set_option maxHeartbeats 4000000 in
theorem c_M_exchangeNews {l : Launch} {K : KK} (x1 : Int32) (x2 : Int32)  (s : Mem) (o : Oc) (q : Mem) (h : f_M_exchangeNews x1 x2 s = some (o, q)) : Ct l K y_M_exchangeNews b_M_exchangeNews 8 none 2 46 [.ref (aa K 30 0), .int x1, .int x2] s o q := by
  refine Ct_of (own := "VillageMailModel") (L := [(0, _), (1, _), (2, _)]) (by decide +kernel) rfl (Nat.le_of_ble_eq_true rfl) rfl (fun Γ G E => ?_)
  unfold f_M_exchangeNews at h
  refine ww_aload_n 0 G d_M_exchangeNews_0 rfl rfl ?_
  refine ww_getr G fs_M_22 (by decide) d_M_exchangeNews_1 ?_
  refine ww_iload_n 1 G d_M_exchangeNews_4 rfl rfl ?_
  refine ww_iaload G ar_35 (by decide) d_M_exchangeNews_5 h (fun v5 h => ?_)
  refine ww_aload_n 0 G d_M_exchangeNews_6 rfl rfl ?_
  refine ww_getr G fs_M_22 (by decide) d_M_exchangeNews_7 ?_
  refine ww_iload_n 2 G d_M_exchangeNews_10 rfl rfl ?_
  refine ww_iaload G ar_35 (by decide) d_M_exchangeNews_11 h (fun v11 h => ?_)
  refine ww_jn h (fun (y30 : Int32) (s30 : Mem) => WW K Γ 0 s30 30 [(0, .ref (aa K 30 0)), (1, .int x1), (2, .int x2)] [.int y30]) (fun y30 s30 h => ?_) (fun r30 J30 h => ?_)
  · skip
    refine ww_istore_n (L' := [(3, _), (0, _), (1, _), (2, _)]) G d_M_exchangeNews_30 rfl (by decide) rfl ?_
    refine ww_aload_n 1 G d_M_exchangeNews_31 rfl rfl ?_
    refine ww_getr G fs_M_22 (by decide) d_M_exchangeNews_32 ?_
    refine ww_iload_n 2 G d_M_exchangeNews_35 rfl rfl ?_
    refine ww_iload_n 0 G d_M_exchangeNews_36 rfl rfl ?_
    refine ww_iastore G ar_35 (by decide) d_M_exchangeNews_37 h (fun s37 h => ?_)
    refine ww_aload_n 1 G d_M_exchangeNews_38 rfl rfl ?_
    refine ww_getr G fs_M_22 (by decide) d_M_exchangeNews_39 ?_
    refine ww_iload_n 3 G d_M_exchangeNews_42 rfl rfl ?_
    refine ww_iload_n 0 G d_M_exchangeNews_43 rfl rfl ?_
    refine ww_iastore G ar_35 (by decide) d_M_exchangeNews_44 h (fun s44 h => ?_)
    refine ww_iconst (v := (0 : Int32)) G d_M_exchangeNews_45 ic_0 ?_
    refine ww_istore (L' := [(4, _), (3, _), (0, _), (1, _), (2, _)]) G d_M_exchangeNews_46 (by decide) rfl ?_
    refine ww_sub [2, 3, 4, 0] rfl ?_
    refine lp_M_exchangeNews_48_ok x1 x2 _ G E (fun s48 h => ?_) FU _ _ h
    refine ww_iconst (v := (0 : Int32)) G d_M_exchangeNews_139 ic_0 ?_
    refine ww_istore (L' := [(4, _), (0, _), (1, _), (2, _)]) G d_M_exchangeNews_140 (by decide) rfl ?_
    refine ww_sub [1, 2, 3, 0] rfl ?_
    refine lp_M_exchangeNews_142_ok x1 x2 _ G E (fun s142 h => ?_) FU _ _ h
    exact ww_vret G E d_M_exchangeNews_238 h
  refine ww_icmple (tgt := 24) G d_M_exchangeNews_12 (by decide) h (fun h => ?_) (fun h => ?_)
  · skip
    refine ww_aload_n 0 G d_M_exchangeNews_24 rfl rfl ?_
    refine ww_getr G fs_M_22 (by decide) d_M_exchangeNews_25 ?_
    refine ww_iload_n 2 G d_M_exchangeNews_28 rfl rfl ?_
    refine ww_iaload G ar_35 (by decide) d_M_exchangeNews_29 h (fun v29 h => ?_)
    exact J30 _ _ h
  · skip
    refine ww_aload_n 0 G d_M_exchangeNews_15 rfl rfl ?_
    refine ww_getr G fs_M_22 (by decide) d_M_exchangeNews_16 ?_
    refine ww_iload_n 1 G d_M_exchangeNews_19 rfl rfl ?_
    refine ww_iaload G ar_35 (by decide) d_M_exchangeNews_20 h (fun v20 h => ?_)
    refine ww_goto (tgt := 30) G d_M_exchangeNews_21 (by decide) ?_
    exact J30 _ _ h

def lp_M_nextStop_9 (x1 : Int32) (x2 : Int32) (k : Int32 → Mem → RR) : Nat → Int32 → Int32 → Mem → RR
  | 0, _, _, _ => none
  | n + 1, x3, x4, s =>
    mm_ld s 34 0 8 x1 fun v20 =>
    if ((((24 : Int32)) * x1) + v20) ≤ x4 then (
      k x3 s
    ) else (
      mm_ld s 33 0 192 x4 fun v31 =>
      if x3 ≤ (x2 + (mm_irem ((v31 - (mm_irem x2 ((10080 : Int32)))) + ((10080 : Int32))) ((10080 : Int32)))) then (
        lp_M_nextStop_9 x1 x2 k n x3 (x4 + (1 : Int32)) s
      ) else (
        lp_M_nextStop_9 x1 x2 k n (x2 + (mm_irem ((v31 - (mm_irem x2 ((10080 : Int32)))) + ((10080 : Int32))) ((10080 : Int32)))) (x4 + (1 : Int32)) s
      )
    )
set_option maxRecDepth 100000 in
set_option maxHeartbeats 4000000 in
theorem lp_M_nextStop_9_ok {K : KK} {Γ : Cx} {o : Oc} {q : Mem} (x1 : Int32) (x2 : Int32)  (k : Int32 → Mem → RR) (G : Good K Γ b_M_nextStop "VillageMailModel" 6 0 0) (E : Ends K Γ (some .int) o q)
    (Kx : ∀ (x3 : Int32) (s : Mem), k x3 s = some (o, q) → WW K Γ 0 s 67 [(3, .int x3)] []) :
    ∀ (n : Nat) (x3 : Int32) (x4 : Int32) (s : Mem), lp_M_nextStop_9 x1 x2 k n x3 x4 s = some (o, q) → WW K Γ 0 s 9 [(0, .ref (aa K 30 0)), (1, .int x1), (2, .int x2), (3, .int x3), (4, .int x4)] [] := by
  intro n
  induction n with
  | zero => intro _ _ _ h; exact nomatch h
  | succ n ih =>
    intro x3 x4 s h
    unfold lp_M_nextStop_9 at h
    refine ww_iload 4 G d_M_nextStop_9 rfl ?_
    refine ww_bipush (v := (24 : Int32)) G d_M_nextStop_11 ib_24 ?_
    refine ww_iload_n 1 G d_M_nextStop_13 rfl rfl ?_
    refine ww_imul G d_M_nextStop_14 ?_
    refine ww_aload_n 0 G d_M_nextStop_15 rfl rfl ?_
    refine ww_getr G fs_M_19 (by decide) d_M_nextStop_16 ?_
    refine ww_iload_n 1 G d_M_nextStop_19 rfl rfl ?_
    refine ww_iaload G ar_34 (by decide) d_M_nextStop_20 h (fun v20 h => ?_)
    refine ww_iadd G d_M_nextStop_21 ?_
    refine ww_icmpge (tgt := 67) G d_M_nextStop_22 (by decide) h (fun h => ?_) (fun h => ?_)
    · skip
      refine ww_sub [3] rfl ?_
      exact Kx _ _ h
    · skip
      refine ww_aload_n 0 G d_M_nextStop_25 rfl rfl ?_
      refine ww_getr G fs_M_16 (by decide) d_M_nextStop_26 ?_
      refine ww_iload 4 G d_M_nextStop_29 rfl ?_
      refine ww_iaload G ar_33 (by decide) d_M_nextStop_31 h (fun v31 h => ?_)
      refine ww_iload_n 2 G d_M_nextStop_32 rfl rfl ?_
      refine ww_sipush (v := (10080 : Int32)) G d_M_nextStop_33 is_10080 ?_
      refine ww_irem G d_M_nextStop_36 (by decide) ?_
      refine ww_isub G d_M_nextStop_37 ?_
      refine ww_sipush (v := (10080 : Int32)) G d_M_nextStop_38 is_10080 ?_
      refine ww_iadd G d_M_nextStop_41 ?_
      refine ww_sipush (v := (10080 : Int32)) G d_M_nextStop_42 is_10080 ?_
      refine ww_irem G d_M_nextStop_45 (by decide) ?_
      refine ww_istore (L' := [(5, _), (0, _), (1, _), (2, _), (3, _), (4, _)]) G d_M_nextStop_46 (by decide) rfl ?_
      refine ww_iload_n 3 G d_M_nextStop_48 rfl rfl ?_
      refine ww_iload 0 G d_M_nextStop_49 rfl ?_
      refine ww_iadd G d_M_nextStop_51 ?_
      refine ww_iload_n 4 G d_M_nextStop_52 rfl rfl ?_
      refine ww_icmpge (tgt := 61) G d_M_nextStop_53 (by decide) h (fun h => ?_) (fun h => ?_)
      · skip
        refine ww_iinc 5 (L' := [(4, _), (5, _), (0, _), (1, _), (2, _), (3, _)]) G d_M_nextStop_61 rfl ic_1 (by decide) rfl ?_
        refine ww_goto (tgt := 9) G d_M_nextStop_64 (by decide) ?_
        refine ww_sub [2, 3, 4, 5, 0] rfl ?_
        exact ih _ _ _ h
      · skip
        refine ww_iload_n 3 G d_M_nextStop_56 rfl rfl ?_
        refine ww_iload 0 G d_M_nextStop_57 rfl ?_
        refine ww_iadd G d_M_nextStop_59 ?_
        refine ww_istore_n (L' := [(3, _), (5, _), (0, _), (1, _), (2, _), (4, _)]) G d_M_nextStop_60 rfl (by decide) rfl ?_
        refine ww_iinc 5 (L' := [(4, _), (3, _), (5, _), (0, _), (1, _), (2, _)]) G d_M_nextStop_61 rfl ic_1 (by decide) rfl ?_
        refine ww_goto (tgt := 9) G d_M_nextStop_64 (by decide) ?_
        refine ww_sub [3, 4, 5, 1, 0] rfl ?_
        exact ih _ _ _ h
def f_M_nextStop (x1 : Int32) (x2 : Int32) (s : Mem) : RR :=
  mm_lp (fun kk => lp_M_nextStop_9 x1 x2 kk FU ((2147483647 : Int32)) (((24 : Int32)) * x1) s) fun x3_9 s9 =>
  mm_ri x3_9 s9
set_option maxRecDepth 100000 in
set_option maxHeartbeats 4000000 in
theorem c_M_nextStop {l : Launch} {K : KK} (x1 : Int32) (x2 : Int32)  (s : Mem) (o : Oc) (q : Mem) (h : f_M_nextStop x1 x2 s = some (o, q)) : Ct l K y_M_nextStop b_M_nextStop 6 (some .int) 0 0 [.ref (aa K 30 0), .int x1, .int x2] s o q := by
  refine Ct_of (own := "VillageMailModel") (L := [(0, _), (1, _), (2, _)]) (by decide +kernel) rfl (Nat.le_of_ble_eq_true rfl) rfl (fun Γ G E => ?_)
  unfold f_M_nextStop at h
  refine ww_ldc (v := (2147483647 : Int32)) G d_M_nextStop_0 kw_M_133 ?_
  refine ww_istore_n (L' := [(3, _), (0, _), (1, _), (2, _)]) G d_M_nextStop_2 rfl (by decide) rfl ?_
  refine ww_bipush (v := (24 : Int32)) G d_M_nextStop_3 ib_24 ?_
  refine ww_iload_n 2 G d_M_nextStop_5 rfl rfl ?_
  refine ww_imul G d_M_nextStop_6 ?_
  refine ww_istore (L' := [(4, _), (3, _), (0, _), (1, _), (2, _)]) G d_M_nextStop_7 (by decide) rfl ?_
  refine ww_sub [2, 3, 4, 1, 0] rfl ?_
  refine lp_M_nextStop_9_ok x1 x2 _ G E (fun x3_9 s9 h => ?_) FU _ _ _ h
  refine ww_iload_n 0 G d_M_nextStop_67 rfl rfl ?_
  exact ww_iret G E d_M_nextStop_68 h
def lp_M_passes_9 (x1 : Int32) (x2 : Int32) (x3 : Int32) (k : Int32 → Mem → RR) : Nat → Int32 → Int32 → Mem → RR
  | 0, _, _, _ => none
  | n + 1, x4, x5, s =>
    mm_ld s 34 0 8 x1 fun v20 =>
    if ((((24 : Int32)) * x1) + v20) ≤ x5 then (
      k x4 s
    ) else (
      mm_ld s 33 0 192 x5 fun v31 =>
      if ¬ v31 = (mm_irem x2 ((10080 : Int32))) then (
        lp_M_passes_9 x1 x2 x3 k n x4 (x5 + (1 : Int32)) s
      ) else (
        mm_ld s 31 0 192 x5 fun v46 =>
        mm_ld s 32 0 192 x5 fun v58 =>
        mm_ld s 58 0 4 (v46 - ((8 : Int32))) fun v67 =>
        if v67 = 0 then (
          mm_ld s 59 0 8 v58 fun v112 =>
          if x2 < v112 then (
            lp_M_passes_9 x1 x2 x3 k n x4 (x5 + (1 : Int32)) s
          ) else (
            mm_sz s 58 0 4 (v46 - ((8 : Int32))) ((1 : Int32)) fun s124 =>
            lp_M_passes_9 x1 x2 x3 k n x4 (x5 + (1 : Int32)) s124
          )
        ) else (
          mm_jn (fun (y80 : Int32) s80 =>
            mm_ld s80 59 0 8 v58 fun v86 =>
            if v86 ≤ (x2 + ((1 : Int32))) then (
              lp_M_passes_9 x1 x2 x3 k n y80 (x5 + (1 : Int32)) s80
            ) else (
              mm_st s80 59 0 8 v58 (x2 + ((1 : Int32))) fun s102 =>
              lp_M_passes_9 x1 x2 x3 k n y80 (x5 + (1 : Int32)) s102
            )
          ) (fun r80 =>
          if ¬ v58 = x3 then (
            r80 x4 s
          ) else (
            r80 ((1 : Int32)) s
          ))
        )
      )
    )
set_option maxRecDepth 100000 in
set_option maxHeartbeats 4000000 in
theorem lp_M_passes_9_ok {K : KK} {Γ : Cx} {o : Oc} {q : Mem} (x1 : Int32) (x2 : Int32) (x3 : Int32)  (k : Int32 → Mem → RR) (G : Good K Γ b_M_passes "VillageMailModel" 8 0 0) (E : Ends K Γ (some .boolean) o q)
    (Kx : ∀ (x4 : Int32) (s : Mem), k x4 s = some (o, q) → WW K Γ 0 s 131 [(4, .int x4)] []) :
    ∀ (n : Nat) (x4 : Int32) (x5 : Int32) (s : Mem), lp_M_passes_9 x1 x2 x3 k n x4 x5 s = some (o, q) → WW K Γ 0 s 9 [(0, .ref (aa K 30 0)), (1, .int x1), (2, .int x2), (3, .int x3), (4, .int x4), (5, .int x5)] [] := by
  intro n
  induction n with
  | zero => intro _ _ _ h; exact nomatch h
  | succ n ih =>
    intro x4 x5 s h
    unfold lp_M_passes_9 at h
    refine ww_iload 5 G d_M_passes_9 rfl ?_
    refine ww_bipush (v := (24 : Int32)) G d_M_passes_11 ib_24 ?_
    refine ww_iload_n 1 G d_M_passes_13 rfl rfl ?_
    refine ww_imul G d_M_passes_14 ?_
    refine ww_aload_n 0 G d_M_passes_15 rfl rfl ?_
    refine ww_getr G fs_M_19 (by decide) d_M_passes_16 ?_
    refine ww_iload_n 1 G d_M_passes_19 rfl rfl ?_
    refine ww_iaload G ar_34 (by decide) d_M_passes_20 h (fun v20 h => ?_)
    refine ww_iadd G d_M_passes_21 ?_
    refine ww_icmpge (tgt := 131) G d_M_passes_22 (by decide) h (fun h => ?_) (fun h => ?_)
    · skip
      refine ww_sub [4] rfl ?_
      exact Kx _ _ h
    · skip
      refine ww_aload_n 0 G d_M_passes_25 rfl rfl ?_
      refine ww_getr G fs_M_16 (by decide) d_M_passes_26 ?_
      refine ww_iload 5 G d_M_passes_29 rfl ?_
      refine ww_iaload G ar_33 (by decide) d_M_passes_31 h (fun v31 h => ?_)
      refine ww_iload_n 2 G d_M_passes_32 rfl rfl ?_
      refine ww_sipush (v := (10080 : Int32)) G d_M_passes_33 is_10080 ?_
      refine ww_irem G d_M_passes_36 (by decide) ?_
      refine ww_icmpne (tgt := 125) G d_M_passes_37 (by decide) h (fun h => ?_) (fun h => ?_)
      · skip
        refine ww_iinc 5 (L' := [(5, _), (0, _), (1, _), (2, _), (3, _), (4, _)]) G d_M_passes_125 rfl ic_1 (by decide) rfl ?_
        refine ww_goto (tgt := 9) G d_M_passes_128 (by decide) ?_
        refine ww_sub [1, 2, 3, 4, 5, 0] rfl ?_
        exact ih _ _ _ h
      · skip
        refine ww_aload_n 0 G d_M_passes_40 rfl rfl ?_
        refine ww_getr G fs_M_7 (by decide) d_M_passes_41 ?_
        refine ww_iload 5 G d_M_passes_44 rfl ?_
        refine ww_iaload G ar_31 (by decide) d_M_passes_46 h (fun v46 h => ?_)
        refine ww_bipush (v := (8 : Int32)) G d_M_passes_47 ib_8 ?_
        refine ww_isub G d_M_passes_49 ?_
        refine ww_istore (L' := [(6, _), (0, _), (1, _), (2, _), (3, _), (4, _), (5, _)]) G d_M_passes_50 (by decide) rfl ?_
        refine ww_aload_n 1 G d_M_passes_52 rfl rfl ?_
        refine ww_getr G fs_M_13 (by decide) d_M_passes_53 ?_
        refine ww_iload 6 G d_M_passes_56 rfl ?_
        refine ww_iaload G ar_32 (by decide) d_M_passes_58 h (fun v58 h => ?_)
        refine ww_istore (L' := [(7, _), (6, _), (0, _), (1, _), (2, _), (3, _), (4, _), (5, _)]) G d_M_passes_59 (by decide) rfl ?_
        refine ww_aload_n 2 G d_M_passes_61 rfl rfl ?_
        refine ww_getr G fs_M_92 (by decide) d_M_passes_62 ?_
        refine ww_iload 1 G d_M_passes_65 rfl ?_
        refine ww_baload G ar_58 (by decide) d_M_passes_67 h (fun v67 h => ?_)
        refine ww_ifeq (tgt := 106) G d_M_passes_68 (by decide) h (fun h => ?_) (fun h => ?_)
        · skip
          refine ww_aload_n 2 G d_M_passes_106 rfl rfl ?_
          refine ww_getr G fs_M_95 (by decide) d_M_passes_107 ?_
          refine ww_iload 0 G d_M_passes_110 rfl ?_
          refine ww_iaload G ar_59 (by decide) d_M_passes_112 h (fun v112 h => ?_)
          refine ww_iload_n 4 G d_M_passes_113 rfl rfl ?_
          refine ww_icmpgt (tgt := 125) G d_M_passes_114 (by decide) h (fun h => ?_) (fun h => ?_)
          · skip
            refine ww_iinc 7 (L' := [(5, _), (7, _), (6, _), (0, _), (1, _), (2, _), (3, _), (4, _)]) G d_M_passes_125 rfl ic_1 (by decide) rfl ?_
            refine ww_goto (tgt := 9) G d_M_passes_128 (by decide) ?_
            refine ww_sub [3, 4, 5, 6, 7, 0] rfl ?_
            exact ih _ _ _ h
          · skip
            refine ww_aload_n 2 G d_M_passes_117 rfl rfl ?_
            refine ww_getr G fs_M_92 (by decide) d_M_passes_118 ?_
            refine ww_iload 1 G d_M_passes_121 rfl ?_
            refine ww_iconst (v := (1 : Int32)) G d_M_passes_123 ic_1 ?_
            refine ww_bastore G ar_58 (by decide) d_M_passes_124 h (fun s124 h => ?_)
            refine ww_iinc 7 (L' := [(5, _), (7, _), (6, _), (0, _), (1, _), (2, _), (3, _), (4, _)]) G d_M_passes_125 rfl ic_1 (by decide) rfl ?_
            refine ww_goto (tgt := 9) G d_M_passes_128 (by decide) ?_
            refine ww_sub [3, 4, 5, 6, 7, 0] rfl ?_
            exact ih _ _ _ h
        · skip
          refine ww_iload 0 G d_M_passes_71 rfl ?_
          refine ww_iload_n 5 G d_M_passes_73 rfl rfl ?_
          refine ww_jn h (fun (y80 : Int32) (s80 : Mem) => WW K Γ 0 s80 80 [(0, .ref (aa K 30 0)), (1, .int x1), (2, .int x2), (3, .int x3), (4, .int y80), (5, .int x5), (7, .int v58)] []) (fun y80 s80 h => ?_) (fun r80 J80 h => ?_)
          · skip
            refine ww_aload_n 0 G d_M_passes_80 rfl rfl ?_
            refine ww_getr G fs_M_95 (by decide) d_M_passes_81 ?_
            refine ww_iload 6 G d_M_passes_84 rfl ?_
            refine ww_iaload G ar_59 (by decide) d_M_passes_86 h (fun v86 h => ?_)
            refine ww_iload_n 2 G d_M_passes_87 rfl rfl ?_
            refine ww_iconst (v := (1 : Int32)) G d_M_passes_88 ic_1 ?_
            refine ww_iadd G d_M_passes_89 ?_
            refine ww_icmple (tgt := 125) G d_M_passes_90 (by decide) h (fun h => ?_) (fun h => ?_)
            · skip
              refine ww_iinc 5 (L' := [(5, _), (0, _), (1, _), (2, _), (3, _), (4, _), (7, _)]) G d_M_passes_125 rfl ic_1 (by decide) rfl ?_
              refine ww_goto (tgt := 9) G d_M_passes_128 (by decide) ?_
              refine ww_sub [1, 2, 3, 4, 5, 0] rfl ?_
              exact ih _ _ _ h
            · skip
              refine ww_aload_n 0 G d_M_passes_93 rfl rfl ?_
              refine ww_getr G fs_M_95 (by decide) d_M_passes_94 ?_
              refine ww_iload 6 G d_M_passes_97 rfl ?_
              refine ww_iload_n 2 G d_M_passes_99 rfl rfl ?_
              refine ww_iconst (v := (1 : Int32)) G d_M_passes_100 ic_1 ?_
              refine ww_iadd G d_M_passes_101 ?_
              refine ww_iastore G ar_59 (by decide) d_M_passes_102 h (fun s102 h => ?_)
              refine ww_goto (tgt := 125) G d_M_passes_103 (by decide) ?_
              refine ww_iinc 5 (L' := [(5, _), (0, _), (1, _), (2, _), (3, _), (4, _), (7, _)]) G d_M_passes_125 rfl ic_1 (by decide) rfl ?_
              refine ww_goto (tgt := 9) G d_M_passes_128 (by decide) ?_
              refine ww_sub [1, 2, 3, 4, 5, 0] rfl ?_
              exact ih _ _ _ h
          refine ww_icmpne (tgt := 80) G d_M_passes_74 (by decide) h (fun h => ?_) (fun h => ?_)
          · skip
            refine ww_sub [2, 3, 4, 5, 6, 7, 0] rfl ?_
            exact J80 _ _ h
          · skip
            refine ww_iconst (v := (1 : Int32)) G d_M_passes_77 ic_1 ?_
            refine ww_istore (L' := [(4, _), (7, _), (6, _), (0, _), (1, _), (2, _), (3, _), (5, _)]) G d_M_passes_78 (by decide) rfl ?_
            refine ww_sub [3, 4, 5, 6, 0, 7, 1] rfl ?_
            exact J80 _ _ h
def f_M_passes (x1 : Int32) (x2 : Int32) (x3 : Int32) (s : Mem) : RR :=
  mm_lp (fun kk => lp_M_passes_9 x1 x2 x3 kk FU ((0 : Int32)) (((24 : Int32)) * x1) s) fun x4_9 s9 =>
  mm_rz x4_9 s9
set_option maxRecDepth 100000 in
set_option maxHeartbeats 4000000 in
theorem c_M_passes {l : Launch} {K : KK} (x1 : Int32) (x2 : Int32) (x3 : Int32)  (s : Mem) (o : Oc) (q : Mem) (h : f_M_passes x1 x2 x3 s = some (o, q)) : Ct l K y_M_passes b_M_passes 8 (some .boolean) 0 0 [.ref (aa K 30 0), .int x1, .int x2, .int x3] s o q := by
  refine Ct_of (own := "VillageMailModel") (L := [(0, _), (1, _), (2, _), (3, _)]) (by decide +kernel) rfl (Nat.le_of_ble_eq_true rfl) rfl (fun Γ G E => ?_)
  unfold f_M_passes at h
  refine ww_iconst (v := (0 : Int32)) G d_M_passes_0 ic_0 ?_
  refine ww_istore (L' := [(4, _), (0, _), (1, _), (2, _), (3, _)]) G d_M_passes_1 (by decide) rfl ?_
  refine ww_bipush (v := (24 : Int32)) G d_M_passes_3 ib_24 ?_
  refine ww_iload_n 2 G d_M_passes_5 rfl rfl ?_
  refine ww_imul G d_M_passes_6 ?_
  refine ww_istore (L' := [(5, _), (4, _), (0, _), (1, _), (2, _), (3, _)]) G d_M_passes_7 (by decide) rfl ?_
  refine ww_sub [2, 3, 4, 5, 1, 0] rfl ?_
  refine lp_M_passes_9_ok x1 x2 x3 _ G E (fun x4_9 s9 h => ?_) FU _ _ _ h
  refine ww_iload 0 G d_M_passes_131 rfl ?_
  exact ww_zret G E d_M_passes_133 h
def lp_M_arrival_11 (x1 : Int32) (x2 : Int32) (x3 : Int32) (x4 : Int32) (k : Mem → RR) : Nat → Int32 → Mem → RR
  | 0, _, _ => none
  | n + 1, x5, s =>
    if ((8 : Int32)) ≤ x5 then (
      k s
    ) else (
      if ¬ x5 = x3 then (
        mm_st s 59 0 8 x5 ((2147483647 : Int32)) fun s37 =>
        lp_M_arrival_11 x1 x2 x3 x4 k n (x5 + (1 : Int32)) s37
      ) else (
        mm_st s 59 0 8 x5 x4 fun s37 =>
        lp_M_arrival_11 x1 x2 x3 x4 k n (x5 + (1 : Int32)) s37
      )
    )
set_option maxRecDepth 100000 in
set_option maxHeartbeats 4000000 in
theorem lp_M_arrival_11_ok {K : KK} {Γ : Cx} {o : Oc} {q : Mem} (x1 : Int32) (x2 : Int32) (x3 : Int32) (x4 : Int32)  (k : Mem → RR) (G : Good K Γ b_M_arrival "VillageMailModel" 6 1 27) (E : Ends K Γ (some .int) o q)
    (Kx : ∀  (s : Mem), k s = some (o, q) → WW K Γ 0 s 44 [(0, .ref (aa K 30 0)), (1, .int x1), (2, .int x2), (3, .int x3), (4, .int x4)] []) :
    ∀ (n : Nat) (x5 : Int32) (s : Mem), lp_M_arrival_11 x1 x2 x3 x4 k n x5 s = some (o, q) → WW K Γ 0 s 11 [(0, .ref (aa K 30 0)), (1, .int x1), (2, .int x2), (3, .int x3), (4, .int x4), (5, .int x5)] [] := by
  intro n
  induction n with
  | zero => intro _ _ h; exact nomatch h
  | succ n ih =>
    intro x5 s h
    unfold lp_M_arrival_11 at h
    refine ww_iload 5 G d_M_arrival_11 rfl ?_
    refine ww_bipush (v := (8 : Int32)) G d_M_arrival_13 ib_8 ?_
    refine ww_icmpge (tgt := 44) G d_M_arrival_15 (by decide) h (fun h => ?_) (fun h => ?_)
    · skip
      refine ww_sub [0, 1, 2, 3, 4] rfl ?_
      exact Kx  _ h
    · skip
      refine ww_aload_n 0 G d_M_arrival_18 rfl rfl ?_
      refine ww_getr G fs_M_95 (by decide) d_M_arrival_19 ?_
      refine ww_iload 5 G d_M_arrival_22 rfl ?_
      refine ww_iload 5 G d_M_arrival_24 rfl ?_
      refine ww_iload_n 3 G d_M_arrival_26 rfl rfl ?_
      refine ww_icmpne (tgt := 35) G d_M_arrival_27 (by decide) h (fun h => ?_) (fun h => ?_)
      · skip
        refine ww_ldc (v := (2147483647 : Int32)) G d_M_arrival_35 kw_M_133 ?_
        refine ww_iastore G ar_59 (by decide) d_M_arrival_37 h (fun s37 h => ?_)
        refine ww_iinc 5 (L' := [(5, _), (0, _), (1, _), (2, _), (3, _), (4, _)]) G d_M_arrival_38 rfl ic_1 (by decide) rfl ?_
        refine ww_goto (tgt := 11) G d_M_arrival_41 (by decide) ?_
        refine ww_sub [1, 2, 3, 4, 5, 0] rfl ?_
        exact ih _ _ h
      · skip
        refine ww_iload 4 G d_M_arrival_30 rfl ?_
        refine ww_goto (tgt := 37) G d_M_arrival_32 (by decide) ?_
        refine ww_iastore G ar_59 (by decide) d_M_arrival_37 h (fun s37 h => ?_)
        refine ww_iinc 5 (L' := [(5, _), (0, _), (1, _), (2, _), (3, _), (4, _)]) G d_M_arrival_38 rfl ic_1 (by decide) rfl ?_
        refine ww_goto (tgt := 11) G d_M_arrival_41 (by decide) ?_
        refine ww_sub [1, 2, 3, 4, 5, 0] rfl ?_
        exact ih _ _ h
def lp_M_arrival_47 (x1 : Int32) (x2 : Int32) (x3 : Int32) (x4 : Int32) (k : Mem → RR) : Nat → Int32 → Mem → RR
  | 0, _, _ => none
  | n + 1, x5, s =>
    if ((4 : Int32)) ≤ x5 then (
      k s
    ) else (
      if ¬ (x5 + ((8 : Int32))) = x3 then (
        mm_sz s 58 0 4 x5 ((0 : Int32)) fun s73 =>
        lp_M_arrival_47 x1 x2 x3 x4 k n (x5 + (1 : Int32)) s73
      ) else (
        mm_sz s 58 0 4 x5 ((1 : Int32)) fun s73 =>
        lp_M_arrival_47 x1 x2 x3 x4 k n (x5 + (1 : Int32)) s73
      )
    )
set_option maxRecDepth 100000 in
set_option maxHeartbeats 4000000 in
theorem lp_M_arrival_47_ok {K : KK} {Γ : Cx} {o : Oc} {q : Mem} (x1 : Int32) (x2 : Int32) (x3 : Int32) (x4 : Int32)  (k : Mem → RR) (G : Good K Γ b_M_arrival "VillageMailModel" 6 1 27) (E : Ends K Γ (some .int) o q)
    (Kx : ∀  (s : Mem), k s = some (o, q) → WW K Γ 0 s 80 [(0, .ref (aa K 30 0)), (1, .int x1), (2, .int x2), (3, .int x3), (4, .int x4)] []) :
    ∀ (n : Nat) (x5 : Int32) (s : Mem), lp_M_arrival_47 x1 x2 x3 x4 k n x5 s = some (o, q) → WW K Γ 0 s 47 [(0, .ref (aa K 30 0)), (1, .int x1), (2, .int x2), (3, .int x3), (4, .int x4), (5, .int x5)] [] := by
  intro n
  induction n with
  | zero => intro _ _ h; exact nomatch h
  | succ n ih =>
    intro x5 s h
    unfold lp_M_arrival_47 at h
    refine ww_iload 5 G d_M_arrival_47 rfl ?_
    refine ww_iconst (v := (4 : Int32)) G d_M_arrival_49 ic_4 ?_
    refine ww_icmpge (tgt := 80) G d_M_arrival_50 (by decide) h (fun h => ?_) (fun h => ?_)
    · skip
      refine ww_sub [0, 1, 2, 3, 4] rfl ?_
      exact Kx  _ h
    · skip
      refine ww_aload_n 0 G d_M_arrival_53 rfl rfl ?_
      refine ww_getr G fs_M_92 (by decide) d_M_arrival_54 ?_
      refine ww_iload 5 G d_M_arrival_57 rfl ?_
      refine ww_iload 5 G d_M_arrival_59 rfl ?_
      refine ww_bipush (v := (8 : Int32)) G d_M_arrival_61 ib_8 ?_
      refine ww_iadd G d_M_arrival_63 ?_
      refine ww_iload_n 3 G d_M_arrival_64 rfl rfl ?_
      refine ww_icmpne (tgt := 72) G d_M_arrival_65 (by decide) h (fun h => ?_) (fun h => ?_)
      · skip
        refine ww_iconst (v := (0 : Int32)) G d_M_arrival_72 ic_0 ?_
        refine ww_bastore G ar_58 (by decide) d_M_arrival_73 h (fun s73 h => ?_)
        refine ww_iinc 5 (L' := [(5, _), (0, _), (1, _), (2, _), (3, _), (4, _)]) G d_M_arrival_74 rfl ic_1 (by decide) rfl ?_
        refine ww_goto (tgt := 47) G d_M_arrival_77 (by decide) ?_
        refine ww_sub [1, 2, 3, 4, 5, 0] rfl ?_
        exact ih _ _ h
      · skip
        refine ww_iconst (v := (1 : Int32)) G d_M_arrival_68 ic_1 ?_
        refine ww_goto (tgt := 73) G d_M_arrival_69 (by decide) ?_
        refine ww_bastore G ar_58 (by decide) d_M_arrival_73 h (fun s73 h => ?_)
        refine ww_iinc 5 (L' := [(5, _), (0, _), (1, _), (2, _), (3, _), (4, _)]) G d_M_arrival_74 rfl ic_1 (by decide) rfl ?_
        refine ww_goto (tgt := 47) G d_M_arrival_77 (by decide) ?_
        refine ww_sub [1, 2, 3, 4, 5, 0] rfl ?_
        exact ih _ _ h
def lp_M_arrival_102 (x1 : Int32) (x2 : Int32) (x4 : Int32) (k : Mem → RR) : Nat → Int32 → Mem → RR
  | 0, _, _ => none
  | n + 1, x5, s =>
    if (x4 + ((20160 : Int32))) < x5 then (
      k s
    ) else (
      mm_cI (f_M_passes x1 x5 x2 s) fun v118 s118 =>
      if v118 = 0 then (
        mm_cI (f_M_nextStop x1 (x5 + ((1 : Int32))) s118) fun v133 s133 =>
        lp_M_arrival_102 x1 x2 x4 k n v133 s133
      ) else (
        mm_ri x5 s118
      )
    )
set_option maxRecDepth 100000 in
set_option maxHeartbeats 4000000 in
theorem lp_M_arrival_102_ok {K : KK} {Γ : Cx} {o : Oc} {q : Mem} (x1 : Int32) (x2 : Int32) (x4 : Int32)  (k : Mem → RR) (G : Good K Γ b_M_arrival "VillageMailModel" 6 1 27) (E : Ends K Γ (some .int) o q)
    (Kx : ∀  (s : Mem), k s = some (o, q) → WW K Γ 0 s 141 [] []) :
    ∀ (n : Nat) (x5 : Int32) (s : Mem), lp_M_arrival_102 x1 x2 x4 k n x5 s = some (o, q) → WW K Γ 0 s 102 [(0, .ref (aa K 30 0)), (1, .int x1), (2, .int x2), (4, .int x4), (5, .int x5)] [] := by
  intro n
  induction n with
  | zero => intro _ _ h; exact nomatch h
  | succ n ih =>
    intro x5 s h
    unfold lp_M_arrival_102 at h
    refine ww_iload 4 G d_M_arrival_102 rfl ?_
    refine ww_iload 3 G d_M_arrival_104 rfl ?_
    refine ww_sipush (v := (20160 : Int32)) G d_M_arrival_106 is_20160 ?_
    refine ww_iadd G d_M_arrival_109 ?_
    refine ww_icmpgt (tgt := 141) G d_M_arrival_110 (by decide) h (fun h => ?_) (fun h => ?_)
    · skip
      refine ww_sub [] rfl ?_
      exact Kx  _ h
    · skip
      refine ww_aload_n 0 G d_M_arrival_113 rfl rfl ?_
      refine ww_iload_n 1 G d_M_arrival_114 rfl rfl ?_
      refine ww_iload 4 G d_M_arrival_115 rfl ?_
      refine ww_iload_n 2 G d_M_arrival_117 rfl rfl ?_
      refine ww_cvI (As := [_, _, _]) G E cs_M_137 (by decide) (fun o q h => c_M_passes x1 x5 x2 _ _ _ h) rfl rfl (Nat.le_of_ble_eq_true rfl) d_M_arrival_118 (by decide) h (fun v118 s118 h => ?_)
      refine ww_ifeq (tgt := 127) G d_M_arrival_121 (by decide) h (fun h => ?_) (fun h => ?_)
      · skip
        refine ww_aload_n 0 G d_M_arrival_127 rfl rfl ?_
        refine ww_iload_n 1 G d_M_arrival_128 rfl rfl ?_
        refine ww_iload 4 G d_M_arrival_129 rfl ?_
        refine ww_iconst (v := (1 : Int32)) G d_M_arrival_131 ic_1 ?_
        refine ww_iadd G d_M_arrival_132 ?_
        refine ww_cvI (As := [_, _]) G E cs_M_134 (by decide) (fun o q h => c_M_nextStop x1 (x5 + ((1 : Int32))) _ _ _ h) rfl rfl (Nat.le_of_ble_eq_true rfl) d_M_arrival_133 (by decide) h (fun v133 s133 h => ?_)
        refine ww_istore (L' := [(5, _), (0, _), (1, _), (2, _), (4, _)]) G d_M_arrival_136 (by decide) rfl ?_
        refine ww_goto (tgt := 102) G d_M_arrival_138 (by decide) ?_
        refine ww_sub [1, 2, 3, 4, 0] rfl ?_
        exact ih _ _ h
      · skip
        refine ww_iload 4 G d_M_arrival_124 rfl ?_
        exact ww_iret G E d_M_arrival_126 h
def f_M_arrival (x1 : Int32) (x2 : Int32) (x3 : Int32) (x4 : Int32) (s : Mem) : RR :=
  if ¬ x3 = x2 then (
    mm_lp (fun kk => lp_M_arrival_11 x1 x2 x3 x4 kk FU ((0 : Int32)) s) fun s11 =>
    mm_lp (fun kk => lp_M_arrival_47 x1 x2 x3 x4 kk FU ((0 : Int32)) s11) fun s47 =>
    mm_jn (fun (y97 : Int32) s97 =>
      mm_cI (f_M_nextStop x1 y97 s97) fun v97 s97 =>
      mm_lp (fun kk => lp_M_arrival_102 x1 x2 x4 kk FU v97 s97) fun s102 =>
      mm_ri ((-1 : Int32)) s102
    ) (fun r97 =>
    if ((8 : Int32)) ≤ x3 then (
      r97 (x4 + ((1 : Int32))) s47
    ) else (
      r97 x4 s47
    ))
  ) else (
    mm_ri x4 s
  )
set_option maxRecDepth 100000 in
set_option maxHeartbeats 4000000 in
theorem c_M_arrival {l : Launch} {K : KK} (x1 : Int32) (x2 : Int32) (x3 : Int32) (x4 : Int32)  (s : Mem) (o : Oc) (q : Mem) (h : f_M_arrival x1 x2 x3 x4 s = some (o, q)) : Ct l K y_M_arrival b_M_arrival 6 (some .int) 1 27 [.ref (aa K 30 0), .int x1, .int x2, .int x3, .int x4] s o q := by
  refine Ct_of (own := "VillageMailModel") (L := [(0, _), (1, _), (2, _), (3, _), (4, _)]) (by decide +kernel) rfl (Nat.le_of_ble_eq_true rfl) rfl (fun Γ G E => ?_)
  unfold f_M_arrival at h
  refine ww_iload_n 3 G d_M_arrival_0 rfl rfl ?_
  refine ww_iload_n 2 G d_M_arrival_1 rfl rfl ?_
  refine ww_icmpne (tgt := 8) G d_M_arrival_2 (by decide) h (fun h => ?_) (fun h => ?_)
  · skip
    refine ww_iconst (v := (0 : Int32)) G d_M_arrival_8 ic_0 ?_
    refine ww_istore (L' := [(5, _), (0, _), (1, _), (2, _), (3, _), (4, _)]) G d_M_arrival_9 (by decide) rfl ?_
    refine ww_sub [1, 2, 3, 4, 5, 0] rfl ?_
    refine lp_M_arrival_11_ok x1 x2 x3 x4 _ G E (fun s11 h => ?_) FU _ _ h
    refine ww_iconst (v := (0 : Int32)) G d_M_arrival_44 ic_0 ?_
    refine ww_istore (L' := [(5, _), (0, _), (1, _), (2, _), (3, _), (4, _)]) G d_M_arrival_45 (by decide) rfl ?_
    refine ww_sub [1, 2, 3, 4, 5, 0] rfl ?_
    refine lp_M_arrival_47_ok x1 x2 x3 x4 _ G E (fun s47 h => ?_) FU _ _ h
    refine ww_aload_n 0 G d_M_arrival_80 rfl rfl ?_
    refine ww_iload_n 1 G d_M_arrival_81 rfl rfl ?_
    refine ww_iload_n 3 G d_M_arrival_82 rfl rfl ?_
    refine ww_bipush (v := (8 : Int32)) G d_M_arrival_83 ib_8 ?_
    refine ww_jn h (fun (y97 : Int32) (s97 : Mem) => WW K Γ 0 s97 97 [(0, .ref (aa K 30 0)), (1, .int x1), (2, .int x2), (4, .int x4)] [.int y97, .int x1, .ref (aa K 30 0)]) (fun y97 s97 h => ?_) (fun r97 J97 h => ?_)
    · skip
      refine ww_cvI (As := [_, _]) G E cs_M_134 (by decide) (fun o q h => c_M_nextStop x1 y97 _ _ _ h) rfl rfl (Nat.le_of_ble_eq_true rfl) d_M_arrival_97 (by decide) h (fun v97 s97 h => ?_)
      refine ww_istore (L' := [(5, _), (0, _), (1, _), (2, _), (4, _)]) G d_M_arrival_100 (by decide) rfl ?_
      refine ww_sub [1, 2, 3, 4, 0] rfl ?_
      refine lp_M_arrival_102_ok x1 x2 x4 _ G E (fun s102 h => ?_) FU _ _ h
      refine ww_iconst (v := (-1 : Int32)) G d_M_arrival_141 ic_m1 ?_
      exact ww_iret G E d_M_arrival_142 h
    refine ww_icmpge (tgt := 93) G d_M_arrival_85 (by decide) h (fun h => ?_) (fun h => ?_)
    · skip
      refine ww_iload 4 G d_M_arrival_93 rfl ?_
      refine ww_iconst (v := (1 : Int32)) G d_M_arrival_95 ic_1 ?_
      refine ww_iadd G d_M_arrival_96 ?_
      refine ww_sub [0, 1, 2, 4] rfl ?_
      exact J97 _ _ h
    · skip
      refine ww_iload 4 G d_M_arrival_88 rfl ?_
      refine ww_goto (tgt := 97) G d_M_arrival_90 (by decide) ?_
      refine ww_sub [0, 1, 2, 4] rfl ?_
      exact J97 _ _ h
  · skip
    refine ww_iload 4 G d_M_arrival_5 rfl ?_
    exact ww_iret G E d_M_arrival_7 h
def f_M_earlier (x0 : Int32) (x1 : Int32) (s : Mem) : RR :=
  if x0 = ((-1 : Int32)) then (
    mm_rz ((0 : Int32)) s
  ) else (
    if x1 = ((-1 : Int32)) then (
      mm_rz ((1 : Int32)) s
    ) else (
      if x1 ≤ x0 then (
        mm_rz ((0 : Int32)) s
      ) else (
        mm_rz ((1 : Int32)) s
      )
    )
  )
set_option maxRecDepth 100000 in
set_option maxHeartbeats 4000000 in
theorem c_M_earlier {l : Launch} {K : KK} (x0 : Int32) (x1 : Int32)  (s : Mem) (o : Oc) (q : Mem) (h : f_M_earlier x0 x1 s = some (o, q)) : Ct l K y_M_earlier b_M_earlier 2 (some .boolean) 0 0 [.int x0, .int x1] s o q := by
  refine Ct_of (own := "VillageMailModel") (L := [(0, _), (1, _)]) (by decide +kernel) rfl (Nat.le_of_ble_eq_true rfl) rfl (fun Γ G E => ?_)
  unfold f_M_earlier at h
  refine ww_iload_n 0 G d_M_earlier_0 rfl rfl ?_
  refine ww_iconst (v := (-1 : Int32)) G d_M_earlier_1 ic_m1 ?_
  refine ww_icmpeq (tgt := 19) G d_M_earlier_2 (by decide) h (fun h => ?_) (fun h => ?_)
  · skip
    refine ww_iconst (v := (0 : Int32)) G d_M_earlier_19 ic_0 ?_
    exact ww_zret G E d_M_earlier_20 h
  · skip
    refine ww_iload_n 1 G d_M_earlier_5 rfl rfl ?_
    refine ww_iconst (v := (-1 : Int32)) G d_M_earlier_6 ic_m1 ?_
    refine ww_icmpeq (tgt := 15) G d_M_earlier_7 (by decide) h (fun h => ?_) (fun h => ?_)
    · skip
      refine ww_iconst (v := (1 : Int32)) G d_M_earlier_15 ic_1 ?_
      refine ww_goto (tgt := 20) G d_M_earlier_16 (by decide) ?_
      exact ww_zret G E d_M_earlier_20 h
    · skip
      refine ww_iload_n 0 G d_M_earlier_10 rfl rfl ?_
      refine ww_iload_n 1 G d_M_earlier_11 rfl rfl ?_
      refine ww_icmpge (tgt := 19) G d_M_earlier_12 (by decide) h (fun h => ?_) (fun h => ?_)
      · skip
        refine ww_iconst (v := (0 : Int32)) G d_M_earlier_19 ic_0 ?_
        exact ww_zret G E d_M_earlier_20 h
      · skip
        refine ww_iconst (v := (1 : Int32)) G d_M_earlier_15 ic_1 ?_
        refine ww_goto (tgt := 20) G d_M_earlier_16 (by decide) ?_
        exact ww_zret G E d_M_earlier_20 h
def f_M_best (x1 : Int32) (x2 : Int32) (x3 : Int32) (s : Mem) : RR :=
  mm_cI (f_M_isKiosk x1 s) fun v2 s2 =>
  mm_jn (fun (y29 : Int32) s29 =>
    mm_pf s29 30 0 31 y29 fun s29 =>
    mm_gf s29 30 0 31 fun v33 =>
    if v33 = 0 then (
      mm_gf s29 30 0 4 fun v45 =>
      mm_cI (f_M_arrival v45 x2 x1 x3 s29) fun v51 s51 =>
      mm_ri v51 s51
    ) else (
      mm_ri ((0 : Int32)) s29
    )
  ) (fun r29 =>
  if v2 = 0 then (
    r29 ((1 : Int32)) s2
  ) else (
    mm_cI (f_M_isKiosk x2 s2) fun v9 s9 =>
    if v9 = 0 then (
      r29 ((1 : Int32)) s9
    ) else (
      mm_cI (f_M_upTo x3 ((2000000000 : Int32)) s9) fun v18 s18 =>
      if v18 = 0 then (
        r29 ((1 : Int32)) s18
      ) else (
        r29 ((0 : Int32)) s18
      )
    )
  ))
set_option maxRecDepth 100000 in
set_option maxHeartbeats 4000000 in
theorem c_M_best {l : Launch} {K : KK} (x1 : Int32) (x2 : Int32) (x3 : Int32)  (s : Mem) (o : Oc) (q : Mem) (h : f_M_best x1 x2 x3 s = some (o, q)) : Ct l K y_M_best b_M_best 4 (some .int) 2 52 [.ref (aa K 30 0), .int x1, .int x2, .int x3] s o q := by
  refine Ct_of (own := "VillageMailModel") (L := [(0, _), (1, _), (2, _), (3, _)]) (by decide +kernel) rfl (Nat.le_of_ble_eq_true rfl) rfl (fun Γ G E => ?_)
  unfold f_M_best at h
  refine ww_aload_n 0 G d_M_best_0 rfl rfl ?_
  refine ww_iload_n 1 G d_M_best_1 rfl rfl ?_
  refine ww_csI (As := [_]) G E cs_M_119 (fun o q h => c_M_isKiosk x1 _ _ _ h) rfl rfl (Nat.le_of_ble_eq_true rfl) d_M_best_2 (by decide) h (fun v2 s2 h => ?_)
  refine ww_jn h (fun (y29 : Int32) (s29 : Mem) => WW K Γ 0 s29 29 [(0, .ref (aa K 30 0)), (1, .int x1), (2, .int x2), (3, .int x3)] [.int y29, .ref (aa K 30 0)]) (fun y29 s29 h => ?_) (fun r29 J29 h => ?_)
  · skip
    refine ww_putf G fs_M_104 (by decide) d_M_best_29 h (fun s29 h => ?_)
    refine ww_aload_n 0 G d_M_best_32 rfl rfl ?_
    refine ww_getf G fs_M_104 (by decide) d_M_best_33 h (fun v33 h => ?_)
    refine ww_ifeq (tgt := 43) G d_M_best_36 (by decide) h (fun h => ?_) (fun h => ?_)
    · skip
      refine ww_aload_n 0 G d_M_best_43 rfl rfl ?_
      refine ww_aload_n 0 G d_M_best_44 rfl rfl ?_
      refine ww_getf G fs_M_130 (by decide) d_M_best_45 h (fun v45 h => ?_)
      refine ww_iload_n 2 G d_M_best_48 rfl rfl ?_
      refine ww_iload_n 1 G d_M_best_49 rfl rfl ?_
      refine ww_iload_n 3 G d_M_best_50 rfl rfl ?_
      refine ww_cvI (As := [_, _, _, _]) G E cs_M_142 (by decide) (fun o q h => c_M_arrival v45 x2 x1 x3 _ _ _ h) rfl rfl (Nat.le_of_ble_eq_true rfl) d_M_best_51 (by decide) h (fun v51 s51 h => ?_)
      exact ww_iret G E d_M_best_54 h
    · skip
      refine ww_iconst (v := (0 : Int32)) G d_M_best_39 ic_0 ?_
      refine ww_goto (tgt := 54) G d_M_best_40 (by decide) ?_
      exact ww_iret G E d_M_best_54 h
  refine ww_ifeq (tgt := 28) G d_M_best_5 (by decide) h (fun h => ?_) (fun h => ?_)
  · skip
    refine ww_iconst (v := (1 : Int32)) G d_M_best_28 ic_1 ?_
    exact J29 _ _ h
  · skip
    refine ww_iload_n 2 G d_M_best_8 rfl rfl ?_
    refine ww_csI (As := [_]) G E cs_M_119 (fun o q h => c_M_isKiosk x2 _ _ _ h) rfl rfl (Nat.le_of_ble_eq_true rfl) d_M_best_9 (by decide) h (fun v9 s9 h => ?_)
    refine ww_ifeq (tgt := 28) G d_M_best_12 (by decide) h (fun h => ?_) (fun h => ?_)
    · skip
      refine ww_iconst (v := (1 : Int32)) G d_M_best_28 ic_1 ?_
      exact J29 _ _ h
    · skip
      refine ww_iload_n 3 G d_M_best_15 rfl rfl ?_
      refine ww_ldc (v := (2000000000 : Int32)) G d_M_best_16 kw_M_141 ?_
      refine ww_csI (As := [_, _]) G E cs_M_108 (fun o q h => c_M_upTo x3 ((2000000000 : Int32)) _ _ _ h) rfl rfl (Nat.le_of_ble_eq_true rfl) d_M_best_18 (by decide) h (fun v18 s18 h => ?_)
      refine ww_ifeq (tgt := 28) G d_M_best_21 (by decide) h (fun h => ?_) (fun h => ?_)
      · skip
        refine ww_iconst (v := (1 : Int32)) G d_M_best_28 ic_1 ?_
        exact J29 _ _ h
      · skip
        refine ww_iconst (v := (0 : Int32)) G d_M_best_24 ic_0 ?_
        refine ww_goto (tgt := 29) G d_M_best_25 (by decide) ?_
        exact J29 _ _ h
def f_M_pieces (x1 : Int32) (s : Mem) : RR :=
  mm_ld s 36 0 16 x1 fun v5 =>
  mm_ri ((v5 + ((7 : Int32))) / ((8 : Int32))) s
set_option maxRecDepth 100000 in
set_option maxHeartbeats 4000000 in
theorem c_M_pieces {l : Launch} {K : KK} (x1 : Int32)  (s : Mem) (o : Oc) (q : Mem) (h : f_M_pieces x1 s = some (o, q)) : Ct l K y_M_pieces b_M_pieces 2 (some .int) 0 0 [.ref (aa K 30 0), .int x1] s o q := by
  refine Ct_of (own := "VillageMailModel") (L := [(0, _), (1, _)]) (by decide +kernel) rfl (Nat.le_of_ble_eq_true rfl) rfl (fun Γ G E => ?_)
  unfold f_M_pieces at h
  refine ww_aload_n 0 G d_M_pieces_0 rfl rfl ?_
  refine ww_getr G fs_M_25 (by decide) d_M_pieces_1 ?_
  refine ww_iload_n 1 G d_M_pieces_4 rfl rfl ?_
  refine ww_iaload G ar_36 (by decide) d_M_pieces_5 h (fun v5 h => ?_)
  refine ww_bipush (v := (7 : Int32)) G d_M_pieces_6 ib_7 ?_
  refine ww_iadd G d_M_pieces_8 ?_
  refine ww_bipush (v := (8 : Int32)) G d_M_pieces_9 ib_8 ?_
  refine ww_idiv G d_M_pieces_11 (by decide) ?_
  exact ww_iret G E d_M_pieces_12 h
def f_M_at (x0 : Int32) (x1 : Int32) (x2 : Int32) (s : Mem) : RR :=
  mm_ri (((((64 : Int32)) * x0) + (((4 : Int32)) * x1)) + x2) s
set_option maxRecDepth 100000 in
set_option maxHeartbeats 4000000 in
theorem c_M_at {l : Launch} {K : KK} (x0 : Int32) (x1 : Int32) (x2 : Int32)  (s : Mem) (o : Oc) (q : Mem) (h : f_M_at x0 x1 x2 s = some (o, q)) : Ct l K y_M_at b_M_at 3 (some .int) 0 0 [.int x0, .int x1, .int x2] s o q := by
  refine Ct_of (own := "VillageMailModel") (L := [(0, _), (1, _), (2, _)]) (by decide +kernel) rfl (Nat.le_of_ble_eq_true rfl) rfl (fun Γ G E => ?_)
  unfold f_M_at at h
  refine ww_bipush (v := (64 : Int32)) G d_M_at_0 ib_64 ?_
  refine ww_iload_n 0 G d_M_at_2 rfl rfl ?_
  refine ww_imul G d_M_at_3 ?_
  refine ww_iconst (v := (4 : Int32)) G d_M_at_4 ic_4 ?_
  refine ww_iload_n 1 G d_M_at_5 rfl rfl ?_
  refine ww_imul G d_M_at_6 ?_
  refine ww_iadd G d_M_at_7 ?_
  refine ww_iload_n 2 G d_M_at_8 rfl rfl ?_
  refine ww_iadd G d_M_at_9 ?_
  exact ww_iret G E d_M_at_10 h

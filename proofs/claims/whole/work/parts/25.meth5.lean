def lp_X_minute_36 (x1 : Int32) (k : Mem → RR) : Nat → Int32 → Mem → RR
  | 0, _, _ => none
  | n + 1, x2, s =>
    mm_gf s 0 0 7 fun v38 =>
    if v38 ≤ x2 then (
      k s
    ) else (
      mm_cV (f_X_lookAt x2 s) fun s46 =>
      lp_X_minute_36 x1 k n (x2 + (1 : Int32)) s46
    )
set_option maxRecDepth 100000 in
set_option maxHeartbeats 4000000 in
theorem lp_X_minute_36_ok {K : KK} {Γ : Cx} {o : Oc} {q : Mem} (x1 : Int32)  (k : Mem → RR) (G : Good K Γ b_X_minute "VillageMail" 3 7 109) (E : Ends K Γ (some .int) o q)
    (Kx : ∀  (s : Mem), k s = some (o, q) → WW K Γ 0 s 55 [(0, .ref (aa K 0 0)), (1, .int x1)] []) :
    ∀ (n : Nat) (x2 : Int32) (s : Mem), lp_X_minute_36 x1 k n x2 s = some (o, q) → WW K Γ 0 s 36 [(0, .ref (aa K 0 0)), (1, .int x1), (2, .int x2)] [] := by
  intro n
  induction n with
  | zero => intro _ _ h; exact nomatch h
  | succ n ih =>
    intro x2 s h
    unfold lp_X_minute_36 at h
    refine ww_iload_n 2 G d_X_minute_36 rfl rfl ?_
    refine ww_aload_n 0 G d_X_minute_37 rfl rfl ?_
    refine ww_getf G fs_X_171 (by decide) d_X_minute_38 h (fun v38 h => ?_)
    refine ww_icmpge (tgt := 55) G d_X_minute_41 (by decide) h (fun h => ?_) (fun h => ?_)
    · skip
      refine ww_sub [0, 1] rfl ?_
      exact Kx  _ h
    · skip
      refine ww_aload_n 0 G d_X_minute_44 rfl rfl ?_
      refine ww_iload_n 2 G d_X_minute_45 rfl rfl ?_
      refine ww_cvV (As := [_]) G E cs_X_214 (by decide) (fun o q h => c_X_lookAt x2 _ _ _ h) rfl rfl (Nat.le_of_ble_eq_true rfl) d_X_minute_46 (by decide) h (fun s46 h => ?_)
      refine ww_iinc 2 (L' := [(2, _), (0, _), (1, _)]) G d_X_minute_49 rfl ic_1 (by decide) rfl ?_
      refine ww_goto (tgt := 36) G d_X_minute_52 (by decide) ?_
      refine ww_sub [1, 2, 0] rfl ?_
      exact ih _ _ h
def f_X_minute (x1 : Int32) (s : Mem) : RR :=
  mm_jn (fun (y17 : Int32) s17 =>
    mm_tV (f_X_demand y17 s17) fun s17 =>
    mm_gf s17 0 0 0 fun v22 =>
    mm_pf s17 0 0 0 (v22 + ((1 : Int32))) fun s27 =>
    mm_cV (f_X_expireWhatIsDue s27) fun s31 =>
    mm_lp (fun kk => lp_X_minute_36 x1 kk FU ((0 : Int32)) s31) fun s36 =>
    mm_gf s36 0 0 0 fun v57 =>
    mm_pf s36 0 0 0 (v57 + (x1 - ((1 : Int32)))) fun s64 =>
    mm_cV (f_X_expireWhatIsDue s64) fun s68 =>
    mm_gf s68 0 0 0 fun v72 =>
    mm_ri v72 s68
  ) (fun r17 =>
  if x1 < ((1 : Int32)) then (
    r17 ((0 : Int32)) s
  ) else (
    if ((20000 : Int32)) < x1 then (
      r17 ((0 : Int32)) s
    ) else (
      r17 ((1 : Int32)) s
    )
  ))
set_option maxRecDepth 100000 in
set_option maxHeartbeats 4000000 in
theorem c_X_minute {l : Launch} {K : KK} (x1 : Int32)  (s : Mem) (o : Oc) (q : Mem) (h : f_X_minute x1 s = some (o, q)) : Ct l K y_X_minute b_X_minute 3 (some .int) 7 109 [.ref (aa K 0 0), .int x1] s o q := by
  refine Ct_of (own := "VillageMail") (L := [(0, _), (1, _)]) (by decide +kernel) rfl (Nat.le_of_ble_eq_true rfl) rfl (fun Γ G E => ?_)
  unfold f_X_minute at h
  refine ww_iload_n 1 G d_X_minute_0 rfl rfl ?_
  refine ww_iconst (v := (1 : Int32)) G d_X_minute_1 ic_1 ?_
  refine ww_jn h (fun (y17 : Int32) (s17 : Mem) => WW K Γ 0 s17 17 [(0, .ref (aa K 0 0)), (1, .int x1)] [.int y17]) (fun y17 s17 h => ?_) (fun r17 J17 h => ?_)
  · skip
    refine ww_tsV (As := [_]) G E cs_X_78 (fun o q h => c_X_demand y17 _ _ _ h) rfl rfl (Nat.le_of_ble_eq_true rfl) d_X_minute_17 (by decide) h (fun s17 h => ?_)
    refine ww_aload_n 0 G d_X_minute_20 rfl rfl ?_
    refine ww_dup G d_X_minute_21 rfl ?_
    refine ww_getf G fs_X_194 (by decide) d_X_minute_22 h (fun v22 h => ?_)
    refine ww_iconst (v := (1 : Int32)) G d_X_minute_25 ic_1 ?_
    refine ww_iadd G d_X_minute_26 ?_
    refine ww_putf G fs_X_194 (by decide) d_X_minute_27 h (fun s27 h => ?_)
    refine ww_aload_n 0 G d_X_minute_30 rfl rfl ?_
    refine ww_cvV (As := []) G E cs_X_237 (by decide) (fun o q h => c_X_expireWhatIsDue _ _ _ h) rfl rfl (Nat.le_of_ble_eq_true rfl) d_X_minute_31 (by decide) h (fun s31 h => ?_)
    refine ww_iconst (v := (0 : Int32)) G d_X_minute_34 ic_0 ?_
    refine ww_istore_n (L' := [(2, _), (0, _), (1, _)]) G d_X_minute_35 rfl (by decide) rfl ?_
    refine ww_sub [1, 2, 0] rfl ?_
    refine lp_X_minute_36_ok x1 _ G E (fun s36 h => ?_) FU _ _ h
    refine ww_aload_n 0 G d_X_minute_55 rfl rfl ?_
    refine ww_dup G d_X_minute_56 rfl ?_
    refine ww_getf G fs_X_194 (by decide) d_X_minute_57 h (fun v57 h => ?_)
    refine ww_iload_n 1 G d_X_minute_60 rfl rfl ?_
    refine ww_iconst (v := (1 : Int32)) G d_X_minute_61 ic_1 ?_
    refine ww_isub G d_X_minute_62 ?_
    refine ww_iadd G d_X_minute_63 ?_
    refine ww_putf G fs_X_194 (by decide) d_X_minute_64 h (fun s64 h => ?_)
    refine ww_aload_n 0 G d_X_minute_67 rfl rfl ?_
    refine ww_cvV (As := []) G E cs_X_237 (by decide) (fun o q h => c_X_expireWhatIsDue _ _ _ h) rfl rfl (Nat.le_of_ble_eq_true rfl) d_X_minute_68 (by decide) h (fun s68 h => ?_)
    refine ww_aload_n 0 G d_X_minute_71 rfl rfl ?_
    refine ww_getf G fs_X_194 (by decide) d_X_minute_72 h (fun v72 h => ?_)
    exact ww_iret G E d_X_minute_75 h
  refine ww_icmplt (tgt := 16) G d_X_minute_2 (by decide) h (fun h => ?_) (fun h => ?_)
  · skip
    refine ww_iconst (v := (0 : Int32)) G d_X_minute_16 ic_0 ?_
    exact J17 _ _ h
  · skip
    refine ww_iload_n 1 G d_X_minute_5 rfl rfl ?_
    refine ww_sipush (v := (20000 : Int32)) G d_X_minute_6 is_20000 ?_
    refine ww_icmpgt (tgt := 16) G d_X_minute_9 (by decide) h (fun h => ?_) (fun h => ?_)
    · skip
      refine ww_iconst (v := (0 : Int32)) G d_X_minute_16 ic_0 ?_
      exact J17 _ _ h
    · skip
      refine ww_iconst (v := (1 : Int32)) G d_X_minute_12 ic_1 ?_
      refine ww_goto (tgt := 17) G d_X_minute_13 (by decide) ?_
      exact J17 _ _ h
def f_X_shareTimetable (i0 : Nat) (i1 : Nat) (s : Mem) : RR :=
  mm_gf s 7 i0 6 fun v1 =>
  mm_gf s 7 i1 6 fun v5 =>
  mm_pf s 7 i0 6 (mm_max v1 v5) fun s14 =>
  mm_pf s14 7 i1 6 (mm_max v1 v5) fun s19 =>
  mm_rv s19
set_option maxRecDepth 100000 in
set_option maxHeartbeats 4000000 in
theorem c_X_shareTimetable {l : Launch} {K : KK} (i0 : Nat) (i1 : Nat) (h0 : i0 < 12) (h1 : i1 < 12) (s : Mem) (o : Oc) (q : Mem) (h : f_X_shareTimetable i0 i1 s = some (o, q)) : Ct l K y_X_shareTimetable b_X_shareTimetable 3 none 1 21 [.ref (aa K 7 i0), .ref (aa K 7 i1)] s o q := by
  refine Ct_of (own := "VillageMail") (L := [(0, _), (1, _)]) (by decide +kernel) rfl (Nat.le_of_ble_eq_true rfl) rfl (fun Γ G E => ?_)
  unfold f_X_shareTimetable at h
  refine ww_aload_n 0 G d_X_shareTimetable_0 rfl rfl ?_
  refine ww_getf G fs_X_107 h0 d_X_shareTimetable_1 h (fun v1 h => ?_)
  refine ww_aload_n 1 G d_X_shareTimetable_4 rfl rfl ?_
  refine ww_getf G fs_X_107 h1 d_X_shareTimetable_5 h (fun v5 h => ?_)
  refine ww_mmax G mx_X_295 (by decide) (Nat.le_of_ble_eq_true rfl) d_X_shareTimetable_8 ?_
  refine ww_istore_n (L' := [(2, _), (0, _), (1, _)]) G d_X_shareTimetable_11 rfl (by decide) rfl ?_
  refine ww_aload_n 1 G d_X_shareTimetable_12 rfl rfl ?_
  refine ww_iload_n 0 G d_X_shareTimetable_13 rfl rfl ?_
  refine ww_putf G fs_X_107 h0 d_X_shareTimetable_14 h (fun s14 h => ?_)
  refine ww_aload_n 2 G d_X_shareTimetable_17 rfl rfl ?_
  refine ww_iload_n 0 G d_X_shareTimetable_18 rfl rfl ?_
  refine ww_putf G fs_X_107 h1 d_X_shareTimetable_19 h (fun s19 h => ?_)
  exact ww_vret G E d_X_shareTimetable_22 h
def f_X_firmer (x0 : Int32) (x1 : Int32) (s : Mem) : RR :=
  if x0 = 0 then (
    mm_ri (mm_max x0 x1) s
  ) else (
    if ¬ x1 = 0 then (
      if ¬ x0 = ((1 : Int32)) then (
        mm_ri x1 s
      ) else (
        mm_ri x0 s
      )
    ) else (
      mm_ri (mm_max x0 x1) s
    )
  )
set_option maxRecDepth 100000 in
set_option maxHeartbeats 4000000 in
theorem c_X_firmer {l : Launch} {K : KK} (x0 : Int32) (x1 : Int32)  (s : Mem) (o : Oc) (q : Mem) (h : f_X_firmer x0 x1 s = some (o, q)) : Ct l K y_X_firmer b_X_firmer 2 (some .int) 1 21 [.int x0, .int x1] s o q := by
  refine Ct_of (own := "VillageMail") (L := [(0, _), (1, _)]) (by decide +kernel) rfl (Nat.le_of_ble_eq_true rfl) rfl (fun Γ G E => ?_)
  unfold f_X_firmer at h
  refine ww_iload_n 0 G d_X_firmer_0 rfl rfl ?_
  refine ww_ifeq (tgt := 8) G d_X_firmer_1 (by decide) h (fun h => ?_) (fun h => ?_)
  · skip
    refine ww_iload_n 0 G d_X_firmer_8 rfl rfl ?_
    refine ww_iload_n 1 G d_X_firmer_9 rfl rfl ?_
    refine ww_mmax G mx_X_295 (by decide) (Nat.le_of_ble_eq_true rfl) d_X_firmer_10 ?_
    exact ww_iret G E d_X_firmer_13 h
  · skip
    refine ww_iload_n 1 G d_X_firmer_4 rfl rfl ?_
    refine ww_ifne (tgt := 14) G d_X_firmer_5 (by decide) h (fun h => ?_) (fun h => ?_)
    · skip
      refine ww_iload_n 0 G d_X_firmer_14 rfl rfl ?_
      refine ww_iconst (v := (1 : Int32)) G d_X_firmer_15 ic_1 ?_
      refine ww_icmpne (tgt := 23) G d_X_firmer_16 (by decide) h (fun h => ?_) (fun h => ?_)
      · skip
        refine ww_iload_n 1 G d_X_firmer_23 rfl rfl ?_
        exact ww_iret G E d_X_firmer_24 h
      · skip
        refine ww_iload_n 0 G d_X_firmer_19 rfl rfl ?_
        refine ww_goto (tgt := 24) G d_X_firmer_20 (by decide) ?_
        exact ww_iret G E d_X_firmer_24 h
    · skip
      refine ww_iload_n 0 G d_X_firmer_8 rfl rfl ?_
      refine ww_iload_n 1 G d_X_firmer_9 rfl rfl ?_
      refine ww_mmax G mx_X_295 (by decide) (Nat.le_of_ble_eq_true rfl) d_X_firmer_10 ?_
      exact ww_iret G E d_X_firmer_13 h
def lp_X_shareNews_2 (i1 : Nat) (i2 : Nat) (k : Mem → RR) : Nat → Int32 → Mem → RR
  | 0, _, _ => none
  | n + 1, x3, s =>
    mm_gf s 0 0 7 fun v4 =>
    if (v4 * ((4 : Int32))) ≤ x3 then (
      k s
    ) else (
      mm_ld s 9 i1 64 x3 fun v17 =>
      mm_ld s 9 i2 64 x3 fun v23 =>
      mm_cV (f_S_learnHops i1 x3 (mm_max v17 v23) s) fun s33 =>
      mm_cV (f_S_learnHops i2 x3 (mm_max v17 v23) s33) fun s40 =>
      lp_X_shareNews_2 i1 i2 k n (x3 + (1 : Int32)) s40
    )
set_option maxRecDepth 100000 in
set_option maxHeartbeats 4000000 in
theorem lp_X_shareNews_2_ok {K : KK} {Γ : Cx} {o : Oc} {q : Mem} (i1 : Nat) (i2 : Nat) (h1 : i1 < 12) (h2 : i2 < 12) (k : Mem → RR) (G : Good K Γ b_X_shareNews "VillageMail" 5 4 86) (E : Ends K Γ none o q)
    (Kx : ∀  (s : Mem), k s = some (o, q) → WW K Γ 0 s 49 [(0, .ref (aa K 0 0)), (1, .ref (aa K 7 i1)), (2, .ref (aa K 7 i2))] []) :
    ∀ (n : Nat) (x3 : Int32) (s : Mem), lp_X_shareNews_2 i1 i2 k n x3 s = some (o, q) → WW K Γ 0 s 2 [(0, .ref (aa K 0 0)), (1, .ref (aa K 7 i1)), (2, .ref (aa K 7 i2)), (3, .int x3)] [] := by
  intro n
  induction n with
  | zero => intro _ _ h; exact nomatch h
  | succ n ih =>
    intro x3 s h
    unfold lp_X_shareNews_2 at h
    refine ww_iload_n 3 G d_X_shareNews_2 rfl rfl ?_
    refine ww_aload_n 0 G d_X_shareNews_3 rfl rfl ?_
    refine ww_getf G fs_X_171 (by decide) d_X_shareNews_4 h (fun v4 h => ?_)
    refine ww_iconst (v := (4 : Int32)) G d_X_shareNews_7 ic_4 ?_
    refine ww_imul G d_X_shareNews_8 ?_
    refine ww_icmpge (tgt := 49) G d_X_shareNews_9 (by decide) h (fun h => ?_) (fun h => ?_)
    · skip
      refine ww_sub [0, 1, 2] rfl ?_
      exact Kx  _ h
    · skip
      refine ww_aload_n 1 G d_X_shareNews_12 rfl rfl ?_
      refine ww_getr G fs_X_300 h1 d_X_shareNews_13 ?_
      refine ww_iload_n 3 G d_X_shareNews_16 rfl rfl ?_
      refine ww_iaload G ar_9 h1 d_X_shareNews_17 h (fun v17 h => ?_)
      refine ww_aload_n 2 G d_X_shareNews_18 rfl rfl ?_
      refine ww_getr G fs_X_300 h2 d_X_shareNews_19 ?_
      refine ww_iload_n 3 G d_X_shareNews_22 rfl rfl ?_
      refine ww_iaload G ar_9 h2 d_X_shareNews_23 h (fun v23 h => ?_)
      refine ww_mmax G mx_X_295 (by decide) (Nat.le_of_ble_eq_true rfl) d_X_shareNews_24 ?_
      refine ww_istore (L' := [(4, _), (0, _), (1, _), (2, _), (3, _)]) G d_X_shareNews_27 (by decide) rfl ?_
      refine ww_aload_n 2 G d_X_shareNews_29 rfl rfl ?_
      refine ww_iload_n 4 G d_X_shareNews_30 rfl rfl ?_
      refine ww_iload 0 G d_X_shareNews_31 rfl ?_
      refine ww_cvV (As := [_, _]) G E cs_X_303 h1 (fun o q h => c_S_learnHops i1 x3 (mm_max v17 v23) h1 _ _ _ h) rfl rfl (Nat.le_of_ble_eq_true rfl) d_X_shareNews_33 (by decide) h (fun s33 h => ?_)
      refine ww_aload_n 3 G d_X_shareNews_36 rfl rfl ?_
      refine ww_iload_n 4 G d_X_shareNews_37 rfl rfl ?_
      refine ww_iload 0 G d_X_shareNews_38 rfl ?_
      refine ww_cvV (As := [_, _]) G E cs_X_303 h2 (fun o q h => c_S_learnHops i2 x3 (mm_max v17 v23) h2 _ _ _ h) rfl rfl (Nat.le_of_ble_eq_true rfl) d_X_shareNews_40 (by decide) h (fun s40 h => ?_)
      refine ww_iinc 4 (L' := [(3, _), (4, _), (0, _), (1, _), (2, _)]) G d_X_shareNews_43 rfl ic_1 (by decide) rfl ?_
      refine ww_goto (tgt := 2) G d_X_shareNews_46 (by decide) ?_
      refine ww_sub [2, 3, 4, 0] rfl ?_
      exact ih _ _ h
def lp_X_shareNews_51 (i1 : Nat) (i2 : Nat) (k : Mem → RR) : Nat → Int32 → Mem → RR
  | 0, _, _ => none
  | n + 1, x3, s =>
    mm_gf s 0 0 7 fun v53 =>
    if v53 ≤ x3 then (
      k s
    ) else (
      mm_ld s 11 i1 16 x3 fun v64 =>
      mm_ld s 11 i2 16 x3 fun v70 =>
      mm_cI (f_X_firmer v64 v70 s) fun v71 s71 =>
      mm_cV (f_S_learnOf i1 x3 v71 s71) fun s80 =>
      mm_cV (f_S_learnOf i2 x3 v71 s80) fun s87 =>
      lp_X_shareNews_51 i1 i2 k n (x3 + (1 : Int32)) s87
    )
set_option maxRecDepth 100000 in
set_option maxHeartbeats 4000000 in
theorem lp_X_shareNews_51_ok {K : KK} {Γ : Cx} {o : Oc} {q : Mem} (i1 : Nat) (i2 : Nat) (h1 : i1 < 12) (h2 : i2 < 12) (k : Mem → RR) (G : Good K Γ b_X_shareNews "VillageMail" 5 4 86) (E : Ends K Γ none o q)
    (Kx : ∀  (s : Mem), k s = some (o, q) → WW K Γ 0 s 96 [] []) :
    ∀ (n : Nat) (x3 : Int32) (s : Mem), lp_X_shareNews_51 i1 i2 k n x3 s = some (o, q) → WW K Γ 0 s 51 [(0, .ref (aa K 0 0)), (1, .ref (aa K 7 i1)), (2, .ref (aa K 7 i2)), (3, .int x3)] [] := by
  intro n
  induction n with
  | zero => intro _ _ h; exact nomatch h
  | succ n ih =>
    intro x3 s h
    unfold lp_X_shareNews_51 at h
    refine ww_iload_n 3 G d_X_shareNews_51 rfl rfl ?_
    refine ww_aload_n 0 G d_X_shareNews_52 rfl rfl ?_
    refine ww_getf G fs_X_171 (by decide) d_X_shareNews_53 h (fun v53 h => ?_)
    refine ww_icmpge (tgt := 96) G d_X_shareNews_56 (by decide) h (fun h => ?_) (fun h => ?_)
    · skip
      refine ww_sub [] rfl ?_
      exact Kx  _ h
    · skip
      refine ww_aload_n 1 G d_X_shareNews_59 rfl rfl ?_
      refine ww_getr G fs_X_227 h1 d_X_shareNews_60 ?_
      refine ww_iload_n 3 G d_X_shareNews_63 rfl rfl ?_
      refine ww_iaload G ar_11 h1 d_X_shareNews_64 h (fun v64 h => ?_)
      refine ww_aload_n 2 G d_X_shareNews_65 rfl rfl ?_
      refine ww_getr G fs_X_227 h2 d_X_shareNews_66 ?_
      refine ww_iload_n 3 G d_X_shareNews_69 rfl rfl ?_
      refine ww_iaload G ar_11 h2 d_X_shareNews_70 h (fun v70 h => ?_)
      refine ww_csI (As := [_, _]) G E cs_X_306 (fun o q h => c_X_firmer v64 v70 _ _ _ h) rfl rfl (Nat.le_of_ble_eq_true rfl) d_X_shareNews_71 (by decide) h (fun v71 s71 h => ?_)
      refine ww_istore (L' := [(4, _), (0, _), (1, _), (2, _), (3, _)]) G d_X_shareNews_74 (by decide) rfl ?_
      refine ww_aload_n 2 G d_X_shareNews_76 rfl rfl ?_
      refine ww_iload_n 4 G d_X_shareNews_77 rfl rfl ?_
      refine ww_iload 0 G d_X_shareNews_78 rfl ?_
      refine ww_cvV (As := [_, _]) G E cs_X_261 h1 (fun o q h => c_S_learnOf i1 x3 v71 h1 _ _ _ h) rfl rfl (Nat.le_of_ble_eq_true rfl) d_X_shareNews_80 (by decide) h (fun s80 h => ?_)
      refine ww_aload_n 3 G d_X_shareNews_83 rfl rfl ?_
      refine ww_iload_n 4 G d_X_shareNews_84 rfl rfl ?_
      refine ww_iload 0 G d_X_shareNews_85 rfl ?_
      refine ww_cvV (As := [_, _]) G E cs_X_261 h2 (fun o q h => c_S_learnOf i2 x3 v71 h2 _ _ _ h) rfl rfl (Nat.le_of_ble_eq_true rfl) d_X_shareNews_87 (by decide) h (fun s87 h => ?_)
      refine ww_iinc 4 (L' := [(3, _), (4, _), (0, _), (1, _), (2, _)]) G d_X_shareNews_90 rfl ic_1 (by decide) rfl ?_
      refine ww_goto (tgt := 51) G d_X_shareNews_93 (by decide) ?_
      refine ww_sub [2, 3, 4, 0] rfl ?_
      exact ih _ _ h
def f_X_shareNews (i1 : Nat) (i2 : Nat) (s : Mem) : RR :=
  mm_lp (fun kk => lp_X_shareNews_2 i1 i2 kk FU ((0 : Int32)) s) fun s2 =>
  mm_lp (fun kk => lp_X_shareNews_51 i1 i2 kk FU ((0 : Int32)) s2) fun s51 =>
  mm_rv s51
set_option maxRecDepth 100000 in
set_option maxHeartbeats 4000000 in
theorem c_X_shareNews {l : Launch} {K : KK} (i1 : Nat) (i2 : Nat) (h1 : i1 < 12) (h2 : i2 < 12) (s : Mem) (o : Oc) (q : Mem) (h : f_X_shareNews i1 i2 s = some (o, q)) : Ct l K y_X_shareNews b_X_shareNews 5 none 4 86 [.ref (aa K 0 0), .ref (aa K 7 i1), .ref (aa K 7 i2)] s o q := by
  refine Ct_of (own := "VillageMail") (L := [(0, _), (1, _), (2, _)]) (by decide +kernel) rfl (Nat.le_of_ble_eq_true rfl) rfl (fun Γ G E => ?_)
  unfold f_X_shareNews at h
  refine ww_iconst (v := (0 : Int32)) G d_X_shareNews_0 ic_0 ?_
  refine ww_istore_n (L' := [(3, _), (0, _), (1, _), (2, _)]) G d_X_shareNews_1 rfl (by decide) rfl ?_
  refine ww_sub [1, 2, 3, 0] rfl ?_
  refine lp_X_shareNews_2_ok i1 i2 h1 h2 _ G E (fun s2 h => ?_) FU _ _ h
  refine ww_iconst (v := (0 : Int32)) G d_X_shareNews_49 ic_0 ?_
  refine ww_istore_n (L' := [(3, _), (0, _), (1, _), (2, _)]) G d_X_shareNews_50 rfl (by decide) rfl ?_
  refine ww_sub [1, 2, 3, 0] rfl ?_
  refine lp_X_shareNews_51_ok i1 i2 h1 h2 _ G E (fun s51 h => ?_) FU _ _ h
  exact ww_vret G E d_X_shareNews_96 h
def lp_X_offerPiecesOf_87 (x1 : Int32) (x2 : Int32) (x3 : Int32) (x7 : Int32) (x8 : Int32) (k : Mem → RR) : Nat → Int32 → Mem → RR
  | 0, _, _ => none
  | n + 1, x9, s =>
    if ((x1 + ((1 : Int32))) * ((4 : Int32))) ≤ x9 then (
      k s
    ) else (
      mm_jn (fun (y125 : Unit) s125 =>
        if x8 = 0 then (
          lp_X_offerPiecesOf_87 x1 x2 x3 x7 x8 k n (x9 + (1 : Int32)) s125
        ) else (
          mm_al 12 x3 fun j135 =>
          mm_cI (f_S_has j135 x9 s125) fun v138 s138 =>
          if v138 = 0 then (
            lp_X_offerPiecesOf_87 x1 x2 x3 x7 x8 k n (x9 + (1 : Int32)) s138
          ) else (
            mm_cV (f_O_add 1 x9 s138) fun s150 =>
            lp_X_offerPiecesOf_87 x1 x2 x3 x7 x8 k n (x9 + (1 : Int32)) s150
          )
        )
      ) (fun r125 =>
      if x7 = 0 then (
        r125 () s
      ) else (
        mm_al 12 x2 fun j107 =>
        mm_cI (f_S_has j107 x9 s) fun v110 s110 =>
        if v110 = 0 then (
          r125 () s110
        ) else (
          mm_cV (f_O_add 0 x9 s110) fun s122 =>
          r125 () s122
        )
      ))
    )
set_option maxRecDepth 100000 in
set_option maxHeartbeats 4000000 in
theorem lp_X_offerPiecesOf_87_ok {K : KK} {Γ : Cx} {o : Oc} {q : Mem} (x1 : Int32) (x2 : Int32) (x3 : Int32) (x7 : Int32) (x8 : Int32)  (k : Mem → RR) (G : Good K Γ b_X_offerPiecesOf "VillageMail" 10 1 21) (E : Ends K Γ none o q)
    (Kx : ∀  (s : Mem), k s = some (o, q) → WW K Γ 0 s 159 [] []) :
    ∀ (n : Nat) (x9 : Int32) (s : Mem), lp_X_offerPiecesOf_87 x1 x2 x3 x7 x8 k n x9 s = some (o, q) → WW K Γ 0 s 87 [(0, .ref (aa K 0 0)), (1, .int x1), (2, .int x2), (3, .int x3), (7, .int x7), (8, .int x8), (9, .int x9)] [] := by
  intro n
  induction n with
  | zero => intro _ _ h; exact nomatch h
  | succ n ih =>
    intro x9 s h
    unfold lp_X_offerPiecesOf_87 at h
    refine ww_iload 6 G d_X_offerPiecesOf_87 rfl ?_
    refine ww_iload_n 1 G d_X_offerPiecesOf_89 rfl rfl ?_
    refine ww_iconst (v := (1 : Int32)) G d_X_offerPiecesOf_90 ic_1 ?_
    refine ww_iadd G d_X_offerPiecesOf_91 ?_
    refine ww_iconst (v := (4 : Int32)) G d_X_offerPiecesOf_92 ic_4 ?_
    refine ww_imul G d_X_offerPiecesOf_93 ?_
    refine ww_icmpge (tgt := 159) G d_X_offerPiecesOf_94 (by decide) h (fun h => ?_) (fun h => ?_)
    · skip
      refine ww_sub [] rfl ?_
      exact Kx  _ h
    · skip
      refine ww_iload 4 G d_X_offerPiecesOf_97 rfl ?_
      refine ww_jn h (fun (y125 : Unit) (s125 : Mem) => WW K Γ 0 s125 125 [(0, .ref (aa K 0 0)), (1, .int x1), (2, .int x2), (3, .int x3), (7, .int x7), (8, .int x8), (9, .int x9)] []) (fun y125 s125 h => ?_) (fun r125 J125 h => ?_)
      · skip
        refine ww_iload 5 G d_X_offerPiecesOf_125 rfl ?_
        refine ww_ifeq (tgt := 153) G d_X_offerPiecesOf_127 (by decide) h (fun h => ?_) (fun h => ?_)
        · skip
          refine ww_iinc 6 (L' := [(9, _), (0, _), (1, _), (2, _), (3, _), (7, _), (8, _)]) G d_X_offerPiecesOf_153 rfl ic_1 (by decide) rfl ?_
          refine ww_goto (tgt := 87) G d_X_offerPiecesOf_156 (by decide) ?_
          refine ww_sub [1, 2, 3, 4, 5, 6, 0] rfl ?_
          exact ih _ _ h
        · skip
          refine ww_aload_n 0 G d_X_offerPiecesOf_130 rfl rfl ?_
          refine ww_getr G fs_X_22 (by decide) d_X_offerPiecesOf_131 ?_
          refine ww_iload_n 3 G d_X_offerPiecesOf_134 rfl rfl ?_
          refine ww_aaload G ar_6 (by decide) d_X_offerPiecesOf_135 h (fun j135 hj135 h => ?_)
          refine ww_iload 6 G d_X_offerPiecesOf_136 rfl ?_
          refine ww_cvI (As := [_]) G E cs_X_316 hj135 (fun o q h => c_S_has j135 x9 hj135 _ _ _ h) rfl rfl (Nat.le_of_ble_eq_true rfl) d_X_offerPiecesOf_138 (by decide) h (fun v138 s138 h => ?_)
          refine ww_ifeq (tgt := 153) G d_X_offerPiecesOf_141 (by decide) h (fun h => ?_) (fun h => ?_)
          · skip
            refine ww_iinc 6 (L' := [(9, _), (0, _), (1, _), (2, _), (3, _), (7, _), (8, _)]) G d_X_offerPiecesOf_153 rfl ic_1 (by decide) rfl ?_
            refine ww_goto (tgt := 87) G d_X_offerPiecesOf_156 (by decide) ?_
            refine ww_sub [1, 2, 3, 4, 5, 6, 0] rfl ?_
            exact ih _ _ h
          · skip
            refine ww_aload_n 0 G d_X_offerPiecesOf_144 rfl rfl ?_
            refine ww_getr G fs_X_64 (by decide) d_X_offerPiecesOf_145 ?_
            refine ww_iload 6 G d_X_offerPiecesOf_148 rfl ?_
            refine ww_cvV (As := [_]) G E cs_X_319 (by decide) (fun o q h => c_O_add 1 x9 (by decide) _ _ _ h) rfl rfl (Nat.le_of_ble_eq_true rfl) d_X_offerPiecesOf_150 (by decide) h (fun s150 h => ?_)
            refine ww_iinc 6 (L' := [(9, _), (0, _), (1, _), (2, _), (3, _), (7, _), (8, _)]) G d_X_offerPiecesOf_153 rfl ic_1 (by decide) rfl ?_
            refine ww_goto (tgt := 87) G d_X_offerPiecesOf_156 (by decide) ?_
            refine ww_sub [1, 2, 3, 4, 5, 6, 0] rfl ?_
            exact ih _ _ h
      refine ww_ifeq (tgt := 125) G d_X_offerPiecesOf_99 (by decide) h (fun h => ?_) (fun h => ?_)
      · skip
        exact J125 _ _ h
      · skip
        refine ww_aload_n 0 G d_X_offerPiecesOf_102 rfl rfl ?_
        refine ww_getr G fs_X_22 (by decide) d_X_offerPiecesOf_103 ?_
        refine ww_iload_n 2 G d_X_offerPiecesOf_106 rfl rfl ?_
        refine ww_aaload G ar_6 (by decide) d_X_offerPiecesOf_107 h (fun j107 hj107 h => ?_)
        refine ww_iload 6 G d_X_offerPiecesOf_108 rfl ?_
        refine ww_cvI (As := [_]) G E cs_X_316 hj107 (fun o q h => c_S_has j107 x9 hj107 _ _ _ h) rfl rfl (Nat.le_of_ble_eq_true rfl) d_X_offerPiecesOf_110 (by decide) h (fun v110 s110 h => ?_)
        refine ww_ifeq (tgt := 125) G d_X_offerPiecesOf_113 (by decide) h (fun h => ?_) (fun h => ?_)
        · skip
          exact J125 _ _ h
        · skip
          refine ww_aload_n 0 G d_X_offerPiecesOf_116 rfl rfl ?_
          refine ww_getr G fs_X_60 (by decide) d_X_offerPiecesOf_117 ?_
          refine ww_iload 6 G d_X_offerPiecesOf_120 rfl ?_
          refine ww_cvV (As := [_]) G E cs_X_319 (by decide) (fun o q h => c_O_add 0 x9 (by decide) _ _ _ h) rfl rfl (Nat.le_of_ble_eq_true rfl) d_X_offerPiecesOf_122 (by decide) h (fun s122 h => ?_)
          exact J125 _ _ h
def f_X_offerPiecesOf (x1 : Int32) (x2 : Int32) (x3 : Int32) (s : Mem) : RR :=
  mm_al 16 x1 fun j5 =>
  mm_gf s 19 j5 1 fun v6 =>
  mm_ld s 23 0 8 v6 fun v20 =>
  mm_ld s 23 1 8 v6 fun v32 =>
  mm_jn (fun (y53 : Int32) s53 =>
    mm_jn (fun (y80 : Int32) s80 =>
      mm_lp (fun kk => lp_X_offerPiecesOf_87 x1 x2 x3 y53 y80 kk FU (x1 * ((4 : Int32))) s80) fun s87 =>
      mm_rv s87
    ) (fun r80 =>
    if v6 = x3 then (
      r80 ((0 : Int32)) s53
    ) else (
      if v32 = ((2147483647 : Int32)) then (
        r80 ((0 : Int32)) s53
      ) else (
        if v20 < v32 then (
          r80 ((0 : Int32)) s53
        ) else (
          r80 ((1 : Int32)) s53
        )
      )
    ))
  ) (fun r53 =>
  if v6 = x3 then (
    r53 ((1 : Int32)) s
  ) else (
    if v32 ≤ v20 then (
      r53 ((0 : Int32)) s
    ) else (
      r53 ((1 : Int32)) s
    )
  ))
set_option maxRecDepth 100000 in
set_option maxHeartbeats 4000000 in
theorem c_X_offerPiecesOf {l : Launch} {K : KK} (x1 : Int32) (x2 : Int32) (x3 : Int32)  (s : Mem) (o : Oc) (q : Mem) (h : f_X_offerPiecesOf x1 x2 x3 s = some (o, q)) : Ct l K y_X_offerPiecesOf b_X_offerPiecesOf 10 none 1 21 [.ref (aa K 0 0), .int x1, .int x2, .int x3] s o q := by
  refine Ct_of (own := "VillageMail") (L := [(0, _), (1, _), (2, _), (3, _)]) (by decide +kernel) rfl (Nat.le_of_ble_eq_true rfl) rfl (fun Γ G E => ?_)
  unfold f_X_offerPiecesOf at h
  refine ww_aload_n 0 G d_X_offerPiecesOf_0 rfl rfl ?_
  refine ww_getr G fs_X_38 (by decide) d_X_offerPiecesOf_1 ?_
  refine ww_iload_n 1 G d_X_offerPiecesOf_4 rfl rfl ?_
  refine ww_aaload G ar_18 (by decide) d_X_offerPiecesOf_5 h (fun j5 hj5 h => ?_)
  refine ww_getf G fs_X_185 hj5 d_X_offerPiecesOf_6 h (fun v6 h => ?_)
  refine ww_istore (L' := [(4, _), (0, _), (1, _), (2, _), (3, _)]) G d_X_offerPiecesOf_9 (by decide) rfl ?_
  refine ww_aload_n 1 G d_X_offerPiecesOf_11 rfl rfl ?_
  refine ww_getr G fs_X_50 (by decide) d_X_offerPiecesOf_12 ?_
  refine ww_getr G fs_X_119 (by decide) d_X_offerPiecesOf_15 ?_
  refine ww_iload 0 G d_X_offerPiecesOf_18 rfl ?_
  refine ww_iaload G ar_23 (by decide) d_X_offerPiecesOf_20 h (fun v20 h => ?_)
  refine ww_istore (L' := [(5, _), (4, _), (0, _), (1, _), (2, _), (3, _)]) G d_X_offerPiecesOf_21 (by decide) rfl ?_
  refine ww_aload_n 2 G d_X_offerPiecesOf_23 rfl rfl ?_
  refine ww_getr G fs_X_54 (by decide) d_X_offerPiecesOf_24 ?_
  refine ww_getr G fs_X_119 (by decide) d_X_offerPiecesOf_27 ?_
  refine ww_iload 1 G d_X_offerPiecesOf_30 rfl ?_
  refine ww_iaload G ar_23 (by decide) d_X_offerPiecesOf_32 h (fun v32 h => ?_)
  refine ww_istore (L' := [(6, _), (5, _), (4, _), (0, _), (1, _), (2, _), (3, _)]) G d_X_offerPiecesOf_33 (by decide) rfl ?_
  refine ww_iload 2 G d_X_offerPiecesOf_35 rfl ?_
  refine ww_iload_n 6 G d_X_offerPiecesOf_37 rfl rfl ?_
  refine ww_jn h (fun (y53 : Int32) (s53 : Mem) => WW K Γ 0 s53 53 [(0, .ref (aa K 0 0)), (1, .int x1), (2, .int x2), (3, .int x3), (4, .int v6), (5, .int v20), (6, .int v32)] [.int y53]) (fun y53 s53 h => ?_) (fun r53 J53 h => ?_)
  · skip
    refine ww_istore (L' := [(7, _), (0, _), (1, _), (2, _), (3, _), (4, _), (5, _), (6, _)]) G d_X_offerPiecesOf_53 (by decide) rfl ?_
    refine ww_iload 5 G d_X_offerPiecesOf_55 rfl ?_
    refine ww_iload_n 4 G d_X_offerPiecesOf_57 rfl rfl ?_
    refine ww_jn h (fun (y80 : Int32) (s80 : Mem) => WW K Γ 0 s80 80 [(0, .ref (aa K 0 0)), (1, .int x1), (2, .int x2), (3, .int x3), (7, .int y53)] [.int y80]) (fun y80 s80 h => ?_) (fun r80 J80 h => ?_)
    · skip
      refine ww_istore (L' := [(8, _), (0, _), (1, _), (2, _), (3, _), (7, _)]) G d_X_offerPiecesOf_80 (by decide) rfl ?_
      refine ww_iload_n 2 G d_X_offerPiecesOf_82 rfl rfl ?_
      refine ww_iconst (v := (4 : Int32)) G d_X_offerPiecesOf_83 ic_4 ?_
      refine ww_imul G d_X_offerPiecesOf_84 ?_
      refine ww_istore (L' := [(9, _), (8, _), (0, _), (1, _), (2, _), (3, _), (7, _)]) G d_X_offerPiecesOf_85 (by decide) rfl ?_
      refine ww_sub [2, 3, 4, 5, 6, 1, 0] rfl ?_
      refine lp_X_offerPiecesOf_87_ok x1 x2 x3 y53 y80 _ G E (fun s87 h => ?_) FU _ _ h
      exact ww_vret G E d_X_offerPiecesOf_159 h
    refine ww_icmpeq (tgt := 79) G d_X_offerPiecesOf_58 (by decide) h (fun h => ?_) (fun h => ?_)
    · skip
      refine ww_iconst (v := (0 : Int32)) G d_X_offerPiecesOf_79 ic_0 ?_
      refine ww_sub [1, 2, 3, 4, 0] rfl ?_
      exact J80 _ _ h
    · skip
      refine ww_iload 7 G d_X_offerPiecesOf_61 rfl ?_
      refine ww_ldc (v := (2147483647 : Int32)) G d_X_offerPiecesOf_63 kw_X_123 ?_
      refine ww_icmpeq (tgt := 79) G d_X_offerPiecesOf_65 (by decide) h (fun h => ?_) (fun h => ?_)
      · skip
        refine ww_iconst (v := (0 : Int32)) G d_X_offerPiecesOf_79 ic_0 ?_
        refine ww_sub [1, 2, 3, 4, 0] rfl ?_
        exact J80 _ _ h
      · skip
        refine ww_iload 7 G d_X_offerPiecesOf_68 rfl ?_
        refine ww_iload 6 G d_X_offerPiecesOf_70 rfl ?_
        refine ww_icmpgt (tgt := 79) G d_X_offerPiecesOf_72 (by decide) h (fun h => ?_) (fun h => ?_)
        · skip
          refine ww_iconst (v := (0 : Int32)) G d_X_offerPiecesOf_79 ic_0 ?_
          refine ww_sub [1, 2, 3, 4, 0] rfl ?_
          exact J80 _ _ h
        · skip
          refine ww_iconst (v := (1 : Int32)) G d_X_offerPiecesOf_75 ic_1 ?_
          refine ww_goto (tgt := 80) G d_X_offerPiecesOf_76 (by decide) ?_
          refine ww_sub [1, 2, 3, 4, 0] rfl ?_
          exact J80 _ _ h
  refine ww_icmpeq (tgt := 48) G d_X_offerPiecesOf_38 (by decide) h (fun h => ?_) (fun h => ?_)
  · skip
    refine ww_iconst (v := (1 : Int32)) G d_X_offerPiecesOf_48 ic_1 ?_
    refine ww_goto (tgt := 53) G d_X_offerPiecesOf_49 (by decide) ?_
    refine ww_sub [3, 4, 5, 6, 2, 1, 0] rfl ?_
    exact J53 _ _ h
  · skip
    refine ww_iload 1 G d_X_offerPiecesOf_41 rfl ?_
    refine ww_iload 0 G d_X_offerPiecesOf_43 rfl ?_
    refine ww_icmpge (tgt := 52) G d_X_offerPiecesOf_45 (by decide) h (fun h => ?_) (fun h => ?_)
    · skip
      refine ww_iconst (v := (0 : Int32)) G d_X_offerPiecesOf_52 ic_0 ?_
      refine ww_sub [3, 4, 5, 6, 2, 1, 0] rfl ?_
      exact J53 _ _ h
    · skip
      refine ww_iconst (v := (1 : Int32)) G d_X_offerPiecesOf_48 ic_1 ?_
      refine ww_goto (tgt := 53) G d_X_offerPiecesOf_49 (by decide) ?_
      refine ww_sub [3, 4, 5, 6, 2, 1, 0] rfl ?_
      exact J53 _ _ h
def lp_X_settleOffers_71 (x1 : Int32) (x2 : Int32) (x4 : Int32) (k : Mem → RR) : Nat → Int32 → Mem → RR
  | 0, _, _ => none
  | n + 1, x5, s =>
    mm_gf s 0 0 7 fun v74 =>
    if v74 ≤ x5 then (
      k s
    ) else (
      mm_al 16 x5 fun j86 =>
      mm_gf s 19 j86 3 fun v87 =>
      if ¬ v87 = x4 then (
        lp_X_settleOffers_71 x1 x2 x4 k n (x5 + (1 : Int32)) s
      ) else (
        mm_cV (f_X_offerPiecesOf x5 x1 x2 s) fun s100 =>
        lp_X_settleOffers_71 x1 x2 x4 k n (x5 + (1 : Int32)) s100
      )
    )
set_option maxRecDepth 100000 in
set_option maxHeartbeats 4000000 in
theorem lp_X_settleOffers_71_ok {K : KK} {Γ : Cx} {o : Oc} {q : Mem} (x1 : Int32) (x2 : Int32) (x4 : Int32)  (k : Mem → RR) (G : Good K Γ b_X_settleOffers "VillageMail" 6 3 73) (E : Ends K Γ none o q)
    (Kx : ∀  (s : Mem), k s = some (o, q) → WW K Γ 0 s 109 [(0, .ref (aa K 0 0)), (1, .int x1), (2, .int x2), (4, .int x4)] []) :
    ∀ (n : Nat) (x5 : Int32) (s : Mem), lp_X_settleOffers_71 x1 x2 x4 k n x5 s = some (o, q) → WW K Γ 0 s 71 [(0, .ref (aa K 0 0)), (1, .int x1), (2, .int x2), (4, .int x4), (5, .int x5)] [] := by
  intro n
  induction n with
  | zero => intro _ _ h; exact nomatch h
  | succ n ih =>
    intro x5 s h
    unfold lp_X_settleOffers_71 at h
    refine ww_iload 4 G d_X_settleOffers_71 rfl ?_
    refine ww_aload_n 0 G d_X_settleOffers_73 rfl rfl ?_
    refine ww_getf G fs_X_171 (by decide) d_X_settleOffers_74 h (fun v74 h => ?_)
    refine ww_icmpge (tgt := 109) G d_X_settleOffers_77 (by decide) h (fun h => ?_) (fun h => ?_)
    · skip
      refine ww_sub [0, 1, 2, 3] rfl ?_
      exact Kx  _ h
    · skip
      refine ww_aload_n 0 G d_X_settleOffers_80 rfl rfl ?_
      refine ww_getr G fs_X_38 (by decide) d_X_settleOffers_81 ?_
      refine ww_iload 4 G d_X_settleOffers_84 rfl ?_
      refine ww_aaload G ar_18 (by decide) d_X_settleOffers_86 h (fun j86 hj86 h => ?_)
      refine ww_getf G fs_X_191 hj86 d_X_settleOffers_87 h (fun v87 h => ?_)
      refine ww_iload 3 G d_X_settleOffers_90 rfl ?_
      refine ww_icmpne (tgt := 103) G d_X_settleOffers_92 (by decide) h (fun h => ?_) (fun h => ?_)
      · skip
        refine ww_iinc 4 (L' := [(5, _), (0, _), (1, _), (2, _), (4, _)]) G d_X_settleOffers_103 rfl ic_1 (by decide) rfl ?_
        refine ww_goto (tgt := 71) G d_X_settleOffers_106 (by decide) ?_
        refine ww_sub [1, 2, 3, 4, 0] rfl ?_
        exact ih _ _ h
      · skip
        refine ww_aload_n 0 G d_X_settleOffers_95 rfl rfl ?_
        refine ww_iload 4 G d_X_settleOffers_96 rfl ?_
        refine ww_iload_n 1 G d_X_settleOffers_98 rfl rfl ?_
        refine ww_iload_n 2 G d_X_settleOffers_99 rfl rfl ?_
        refine ww_cvV (As := [_, _, _]) G E cs_X_313 (by decide) (fun o q h => c_X_offerPiecesOf x5 x1 x2 _ _ _ h) rfl rfl (Nat.le_of_ble_eq_true rfl) d_X_settleOffers_100 (by decide) h (fun s100 h => ?_)
        refine ww_iinc 4 (L' := [(5, _), (0, _), (1, _), (2, _), (4, _)]) G d_X_settleOffers_103 rfl ic_1 (by decide) rfl ?_
        refine ww_goto (tgt := 71) G d_X_settleOffers_106 (by decide) ?_
        refine ww_sub [1, 2, 3, 4, 0] rfl ?_
        exact ih _ _ h
def lp_X_settleOffers_62 (x1 : Int32) (x2 : Int32) (k : Mem → RR) : Nat → Int32 → Mem → RR
  | 0, _, _ => none
  | n + 1, x4, s =>
    if ((3 : Int32)) ≤ x4 then (
      k s
    ) else (
      mm_lp (fun kk => lp_X_settleOffers_71 x1 x2 x4 kk FU ((0 : Int32)) s) fun s71 =>
      lp_X_settleOffers_62 x1 x2 k n (x4 + (1 : Int32)) s71
    )
set_option maxRecDepth 100000 in
set_option maxHeartbeats 4000000 in
theorem lp_X_settleOffers_62_ok {K : KK} {Γ : Cx} {o : Oc} {q : Mem} (x1 : Int32) (x2 : Int32)  (k : Mem → RR) (G : Good K Γ b_X_settleOffers "VillageMail" 6 3 73) (E : Ends K Γ none o q)
    (Kx : ∀  (s : Mem), k s = some (o, q) → WW K Γ 0 s 115 [] []) :
    ∀ (n : Nat) (x4 : Int32) (s : Mem), lp_X_settleOffers_62 x1 x2 k n x4 s = some (o, q) → WW K Γ 0 s 62 [(0, .ref (aa K 0 0)), (1, .int x1), (2, .int x2), (4, .int x4)] [] := by
  intro n
  induction n with
  | zero => intro _ _ h; exact nomatch h
  | succ n ih =>
    intro x4 s h
    unfold lp_X_settleOffers_62 at h
    refine ww_iload 3 G d_X_settleOffers_62 rfl ?_
    refine ww_iconst (v := (3 : Int32)) G d_X_settleOffers_64 ic_3 ?_
    refine ww_icmpge (tgt := 115) G d_X_settleOffers_65 (by decide) h (fun h => ?_) (fun h => ?_)
    · skip
      refine ww_sub [] rfl ?_
      exact Kx  _ h
    · skip
      refine ww_iconst (v := (0 : Int32)) G d_X_settleOffers_68 ic_0 ?_
      refine ww_istore (L' := [(5, _), (0, _), (1, _), (2, _), (4, _)]) G d_X_settleOffers_69 (by decide) rfl ?_
      refine ww_sub [1, 2, 3, 4, 0] rfl ?_
      refine lp_X_settleOffers_71_ok x1 x2 x4 _ G E (fun s71 h => ?_) FU _ _ h
      refine ww_iinc 3 (L' := [(4, _), (0, _), (1, _), (2, _)]) G d_X_settleOffers_109 rfl ic_1 (by decide) rfl ?_
      refine ww_goto (tgt := 62) G d_X_settleOffers_112 (by decide) ?_
      refine ww_sub [1, 2, 3, 0] rfl ?_
      exact ih _ _ h
def f_X_settleOffers (x1 : Int32) (x2 : Int32) (s : Mem) : RR :=
  mm_al 12 x1 fun j9 =>
  mm_gf s 7 j9 6 fun v10 =>
  mm_al 7 v10 fun j13 =>
  mm_gf s 0 0 0 fun v22 =>
  mm_cV (f_R_startAtKiosk 0 j13 x2 (v22 + ((1 : Int32))) s) fun s27 =>
  mm_gf s27 0 0 0 fun v37 =>
  mm_cV (f_R_startOnBus 1 j13 x1 v37 s27) fun s40 =>
  mm_pf s40 26 0 1 ((0 : Int32)) fun s48 =>
  mm_pf s48 26 1 1 ((0 : Int32)) fun s56 =>
  mm_lp (fun kk => lp_X_settleOffers_62 x1 x2 kk FU ((0 : Int32)) s56) fun s62 =>
  mm_rv s62
set_option maxRecDepth 100000 in
set_option maxHeartbeats 4000000 in
theorem c_X_settleOffers {l : Launch} {K : KK} (x1 : Int32) (x2 : Int32)  (s : Mem) (o : Oc) (q : Mem) (h : f_X_settleOffers x1 x2 s = some (o, q)) : Ct l K y_X_settleOffers b_X_settleOffers 6 none 3 73 [.ref (aa K 0 0), .int x1, .int x2] s o q := by
  refine Ct_of (own := "VillageMail") (L := [(0, _), (1, _), (2, _)]) (by decide +kernel) rfl (Nat.le_of_ble_eq_true rfl) rfl (fun Γ G E => ?_)
  unfold f_X_settleOffers at h
  refine ww_aload_n 0 G d_X_settleOffers_0 rfl rfl ?_
  refine ww_getr G fs_X_16 (by decide) d_X_settleOffers_1 ?_
  refine ww_aload_n 0 G d_X_settleOffers_4 rfl rfl ?_
  refine ww_getr G fs_X_22 (by decide) d_X_settleOffers_5 ?_
  refine ww_iload_n 1 G d_X_settleOffers_8 rfl rfl ?_
  refine ww_aaload G ar_6 (by decide) d_X_settleOffers_9 h (fun j9 hj9 h => ?_)
  refine ww_getf G fs_X_107 hj9 d_X_settleOffers_10 h (fun v10 h => ?_)
  refine ww_aaload G ar_5 (by decide) d_X_settleOffers_13 h (fun j13 hj13 h => ?_)
  refine ww_astore_n (L' := [(3, _), (0, _), (1, _), (2, _)]) G d_X_settleOffers_14 rfl (by decide) rfl ?_
  refine ww_aload_n 1 G d_X_settleOffers_15 rfl rfl ?_
  refine ww_getr G fs_X_50 (by decide) d_X_settleOffers_16 ?_
  refine ww_aload_n 0 G d_X_settleOffers_19 rfl rfl ?_
  refine ww_iload_n 3 G d_X_settleOffers_20 rfl rfl ?_
  refine ww_aload_n 1 G d_X_settleOffers_21 rfl rfl ?_
  refine ww_getf G fs_X_194 (by decide) d_X_settleOffers_22 h (fun v22 h => ?_)
  refine ww_iconst (v := (1 : Int32)) G d_X_settleOffers_25 ic_1 ?_
  refine ww_iadd G d_X_settleOffers_26 ?_
  refine ww_cvV (As := [_, _, _]) G E cs_X_115 (by decide) (fun o q h => c_R_startAtKiosk 0 j13 x2 (v22 + ((1 : Int32))) (by decide) (show j13 < 8 by omega) _ _ _ h) rfl rfl (Nat.le_of_ble_eq_true rfl) d_X_settleOffers_27 (by decide) h (fun s27 h => ?_)
  refine ww_aload_n 1 G d_X_settleOffers_30 rfl rfl ?_
  refine ww_getr G fs_X_54 (by decide) d_X_settleOffers_31 ?_
  refine ww_aload_n 0 G d_X_settleOffers_34 rfl rfl ?_
  refine ww_iload_n 2 G d_X_settleOffers_35 rfl rfl ?_
  refine ww_aload_n 1 G d_X_settleOffers_36 rfl rfl ?_
  refine ww_getf G fs_X_194 (by decide) d_X_settleOffers_37 h (fun v37 h => ?_)
  refine ww_cvV (As := [_, _, _]) G E cs_X_309 (by decide) (fun o q h => c_R_startOnBus 1 j13 x1 v37 (by decide) (show j13 < 8 by omega) _ _ _ h) rfl rfl (Nat.le_of_ble_eq_true rfl) d_X_settleOffers_40 (by decide) h (fun s40 h => ?_)
  refine ww_aload_n 1 G d_X_settleOffers_43 rfl rfl ?_
  refine ww_getr G fs_X_60 (by decide) d_X_settleOffers_44 ?_
  refine ww_iconst (v := (0 : Int32)) G d_X_settleOffers_47 ic_0 ?_
  refine ww_putf G fs_X_312 (by decide) d_X_settleOffers_48 h (fun s48 h => ?_)
  refine ww_aload_n 1 G d_X_settleOffers_51 rfl rfl ?_
  refine ww_getr G fs_X_64 (by decide) d_X_settleOffers_52 ?_
  refine ww_iconst (v := (0 : Int32)) G d_X_settleOffers_55 ic_0 ?_
  refine ww_putf G fs_X_312 (by decide) d_X_settleOffers_56 h (fun s56 h => ?_)
  refine ww_iconst (v := (0 : Int32)) G d_X_settleOffers_59 ic_0 ?_
  refine ww_istore (L' := [(4, _), (3, _), (0, _), (1, _), (2, _)]) G d_X_settleOffers_60 (by decide) rfl ?_
  refine ww_sub [2, 3, 4, 0] rfl ?_
  refine lp_X_settleOffers_62_ok x1 x2 _ G E (fun s62 h => ?_) FU _ _ h
  exact ww_vret G E d_X_settleOffers_115 h

def lp_T_become_10 (i0 : Nat) (i1 : Nat) (k : Mem → RR) : Nat → Int32 → Mem → RR
  | 0, _, _ => none
  | n + 1, x2, s =>
    mm_gf s 1 i0 3 fun v12 =>
    if v12 ≤ x2 then (
      k s
    ) else (
      mm_ld s 2 i1 24 x2 fun v25 =>
      mm_ld s 3 i1 24 x2 fun v31 =>
      mm_ld s 4 i1 24 x2 fun v37 =>
      mm_cV (f_T_set i0 x2 v25 v31 v37 s) fun s38 =>
      lp_T_become_10 i0 i1 k n (x2 + (1 : Int32)) s38
    )
set_option maxRecDepth 100000 in
set_option maxHeartbeats 4000000 in
theorem lp_T_become_10_ok {K : KK} {Γ : Cx} {o : Oc} {q : Mem} (i0 : Nat) (i1 : Nat) (h0 : i0 < 8) (h1 : i1 < 8) (k : Mem → RR) (G : Good K Γ b_T_become "VillageMail$Timetable" 3 1 24) (E : Ends K Γ none o q)
    (Kx : ∀  (s : Mem), k s = some (o, q) → WW K Γ 0 s 47 [] []) :
    ∀ (n : Nat) (x2 : Int32) (s : Mem), lp_T_become_10 i0 i1 k n x2 s = some (o, q) → WW K Γ 0 s 10 [(0, .ref (aa K 1 i0)), (1, .ref (aa K 1 i1)), (2, .int x2)] [] := by
  intro n
  induction n with
  | zero => intro _ _ h; exact nomatch h
  | succ n ih =>
    intro x2 s h
    unfold lp_T_become_10 at h
    refine ww_iload_n 2 G d_T_become_10 rfl rfl ?_
    refine ww_aload_n 0 G d_T_become_11 rfl rfl ?_
    refine ww_getf G fs_T_21 h0 d_T_become_12 h (fun v12 h => ?_)
    refine ww_icmpge (tgt := 47) G d_T_become_15 (by decide) h (fun h => ?_) (fun h => ?_)
    · skip
      refine ww_sub [] rfl ?_
      exact Kx  _ h
    · skip
      refine ww_aload_n 0 G d_T_become_18 rfl rfl ?_
      refine ww_iload_n 2 G d_T_become_19 rfl rfl ?_
      refine ww_aload_n 1 G d_T_become_20 rfl rfl ?_
      refine ww_getr G fs_T_9 h1 d_T_become_21 ?_
      refine ww_iload_n 2 G d_T_become_24 rfl rfl ?_
      refine ww_iaload G ar_2 h1 d_T_become_25 h (fun v25 h => ?_)
      refine ww_aload_n 1 G d_T_become_26 rfl rfl ?_
      refine ww_getr G fs_T_15 h1 d_T_become_27 ?_
      refine ww_iload_n 2 G d_T_become_30 rfl rfl ?_
      refine ww_iaload G ar_3 h1 d_T_become_31 h (fun v31 h => ?_)
      refine ww_aload_n 1 G d_T_become_32 rfl rfl ?_
      refine ww_getr G fs_T_18 h1 d_T_become_33 ?_
      refine ww_iload_n 2 G d_T_become_36 rfl rfl ?_
      refine ww_iaload G ar_4 h1 d_T_become_37 h (fun v37 h => ?_)
      refine ww_cvV (As := [_, _, _, _]) G E cs_T_25 h0 (fun o q h => c_T_set i0 x2 v25 v31 v37 h0 _ _ _ h) rfl rfl (Nat.le_of_ble_eq_true rfl) d_T_become_38 (by decide) h (fun s38 h => ?_)
      refine ww_iinc 2 (L' := [(2, _), (0, _), (1, _)]) G d_T_become_41 rfl ic_1 (by decide) rfl ?_
      refine ww_goto (tgt := 10) G d_T_become_44 (by decide) ?_
      refine ww_sub [1, 2, 0] rfl ?_
      exact ih _ _ h
def f_T_become (i0 : Nat) (i1 : Nat) (s : Mem) : RR :=
  mm_gf s 1 i1 3 fun v2 =>
  mm_pf s 1 i0 3 v2 fun s5 =>
  mm_lp (fun kk => lp_T_become_10 i0 i1 kk FU ((0 : Int32)) s5) fun s10 =>
  mm_rv s10
set_option maxRecDepth 100000 in
set_option maxHeartbeats 4000000 in
theorem c_T_become {l : Launch} {K : KK} (i0 : Nat) (i1 : Nat) (h0 : i0 < 8) (h1 : i1 < 8) (s : Mem) (o : Oc) (q : Mem) (h : f_T_become i0 i1 s = some (o, q)) : Ct l K y_T_become b_T_become 3 none 1 24 [.ref (aa K 1 i0), .ref (aa K 1 i1)] s o q := by
  refine Ct_of (own := "VillageMail$Timetable") (L := [(0, _), (1, _)]) (by decide +kernel) rfl (Nat.le_of_ble_eq_true rfl) rfl (fun Γ G E => ?_)
  unfold f_T_become at h
  refine ww_aload_n 0 G d_T_become_0 rfl rfl ?_
  refine ww_aload_n 1 G d_T_become_1 rfl rfl ?_
  refine ww_getf G fs_T_21 h1 d_T_become_2 h (fun v2 h => ?_)
  refine ww_putf G fs_T_21 h0 d_T_become_5 h (fun s5 h => ?_)
  refine ww_iconst (v := (0 : Int32)) G d_T_become_8 ic_0 ?_
  refine ww_istore_n (L' := [(2, _), (0, _), (1, _)]) G d_T_become_9 rfl (by decide) rfl ?_
  refine ww_sub [1, 2, 0] rfl ?_
  refine lp_T_become_10_ok i0 i1 h0 h1 _ G E (fun s10 h => ?_) FU _ _ h
  exact ww_vret G E d_T_become_47 h
def f_S_room (i0 : Nat) (s : Mem) : RR :=
  mm_gf s 7 i0 0 fun v1 =>
  mm_gf s 7 i0 5 fun v5 =>
  mm_ri (v1 - v5) s
set_option maxRecDepth 100000 in
set_option maxHeartbeats 4000000 in
theorem c_S_room {l : Launch} {K : KK} (i0 : Nat) (h0 : i0 < 12) (s : Mem) (o : Oc) (q : Mem) (h : f_S_room i0 s = some (o, q)) : Ct l K y_S_room b_S_room 1 (some .int) 0 0 [.ref (aa K 7 i0)] s o q := by
  refine Ct_of (own := "VillageMail$Store") (L := [(0, _)]) (by decide +kernel) rfl (Nat.le_of_ble_eq_true rfl) rfl (fun Γ G E => ?_)
  unfold f_S_room at h
  refine ww_aload_n 0 G d_S_room_0 rfl rfl ?_
  refine ww_getf G fs_S_9 h0 d_S_room_1 h (fun v1 h => ?_)
  refine ww_aload_n 0 G d_S_room_4 rfl rfl ?_
  refine ww_getf G fs_S_35 h0 d_S_room_5 h (fun v5 h => ?_)
  refine ww_isub G d_S_room_8 ?_
  exact ww_iret G E d_S_room_9 h
def f_S_has (i0 : Nat) (x1 : Int32) (s : Mem) : RR :=
  mm_ld s 8 i0 64 x1 fun v5 =>
  if v5 = ((-1 : Int32)) then (
    mm_rz ((0 : Int32)) s
  ) else (
    mm_rz ((1 : Int32)) s
  )
set_option maxRecDepth 100000 in
set_option maxHeartbeats 4000000 in
theorem c_S_has {l : Launch} {K : KK} (i0 : Nat) (x1 : Int32) (h0 : i0 < 12) (s : Mem) (o : Oc) (q : Mem) (h : f_S_has i0 x1 s = some (o, q)) : Ct l K y_S_has b_S_has 2 (some .boolean) 0 0 [.ref (aa K 7 i0), .int x1] s o q := by
  refine Ct_of (own := "VillageMail$Store") (L := [(0, _), (1, _)]) (by decide +kernel) rfl (Nat.le_of_ble_eq_true rfl) rfl (fun Γ G E => ?_)
  unfold f_S_has at h
  refine ww_aload_n 0 G d_S_has_0 rfl rfl ?_
  refine ww_getr G fs_S_15 h0 d_S_has_1 ?_
  refine ww_iload_n 1 G d_S_has_4 rfl rfl ?_
  refine ww_iaload G ar_8 h0 d_S_has_5 h (fun v5 h => ?_)
  refine ww_iconst (v := (-1 : Int32)) G d_S_has_6 ic_m1 ?_
  refine ww_icmpeq (tgt := 14) G d_S_has_7 (by decide) h (fun h => ?_) (fun h => ?_)
  · skip
    refine ww_iconst (v := (0 : Int32)) G d_S_has_14 ic_0 ?_
    exact ww_zret G E d_S_has_15 h
  · skip
    refine ww_iconst (v := (1 : Int32)) G d_S_has_10 ic_1 ?_
    refine ww_goto (tgt := 15) G d_S_has_11 (by decide) ?_
    exact ww_zret G E d_S_has_15 h
def lp_S_countOf_6 (i0 : Nat) (x1 : Int32) (k : Int32 → Mem → RR) : Nat → Int32 → Int32 → Mem → RR
  | 0, _, _, _ => none
  | n + 1, x2, x3, s =>
    if ((x1 + ((1 : Int32))) * ((4 : Int32))) ≤ x3 then (
      k x2 s
    ) else (
      mm_cI (f_S_has i0 x3 s) fun v17 s17 =>
      if v17 = 0 then (
        lp_S_countOf_6 i0 x1 k n x2 (x3 + (1 : Int32)) s17
      ) else (
        lp_S_countOf_6 i0 x1 k n (x2 + (1 : Int32)) (x3 + (1 : Int32)) s17
      )
    )
set_option maxRecDepth 100000 in
set_option maxHeartbeats 4000000 in
theorem lp_S_countOf_6_ok {K : KK} {Γ : Cx} {o : Oc} {q : Mem} (i0 : Nat) (x1 : Int32) (h0 : i0 < 12) (k : Int32 → Mem → RR) (G : Good K Γ b_S_countOf "VillageMail$Store" 4 1 21) (E : Ends K Γ (some .int) o q)
    (Kx : ∀ (x2 : Int32) (s : Mem), k x2 s = some (o, q) → WW K Γ 0 s 32 [(2, .int x2)] []) :
    ∀ (n : Nat) (x2 : Int32) (x3 : Int32) (s : Mem), lp_S_countOf_6 i0 x1 k n x2 x3 s = some (o, q) → WW K Γ 0 s 6 [(0, .ref (aa K 7 i0)), (1, .int x1), (2, .int x2), (3, .int x3)] [] := by
  intro n
  induction n with
  | zero => intro _ _ _ h; exact nomatch h
  | succ n ih =>
    intro x2 x3 s h
    unfold lp_S_countOf_6 at h
    refine ww_iload_n 3 G d_S_countOf_6 rfl rfl ?_
    refine ww_iload_n 1 G d_S_countOf_7 rfl rfl ?_
    refine ww_iconst (v := (1 : Int32)) G d_S_countOf_8 ic_1 ?_
    refine ww_iadd G d_S_countOf_9 ?_
    refine ww_iconst (v := (4 : Int32)) G d_S_countOf_10 ic_4 ?_
    refine ww_imul G d_S_countOf_11 ?_
    refine ww_icmpge (tgt := 32) G d_S_countOf_12 (by decide) h (fun h => ?_) (fun h => ?_)
    · skip
      refine ww_sub [2] rfl ?_
      exact Kx _ _ h
    · skip
      refine ww_aload_n 0 G d_S_countOf_15 rfl rfl ?_
      refine ww_iload_n 3 G d_S_countOf_16 rfl rfl ?_
      refine ww_cvI (As := [_]) G E cs_S_38 h0 (fun o q h => c_S_has i0 x3 h0 _ _ _ h) rfl rfl (Nat.le_of_ble_eq_true rfl) d_S_countOf_17 (by decide) h (fun v17 s17 h => ?_)
      refine ww_ifeq (tgt := 26) G d_S_countOf_20 (by decide) h (fun h => ?_) (fun h => ?_)
      · skip
        refine ww_iinc 3 (L' := [(3, _), (0, _), (1, _), (2, _)]) G d_S_countOf_26 rfl ic_1 (by decide) rfl ?_
        refine ww_goto (tgt := 6) G d_S_countOf_29 (by decide) ?_
        refine ww_sub [1, 2, 3, 0] rfl ?_
        exact ih _ _ _ h
      · skip
        refine ww_iinc 2 (L' := [(2, _), (0, _), (1, _), (3, _)]) G d_S_countOf_23 rfl ic_1 (by decide) rfl ?_
        refine ww_iinc 3 (L' := [(3, _), (2, _), (0, _), (1, _)]) G d_S_countOf_26 rfl ic_1 (by decide) rfl ?_
        refine ww_goto (tgt := 6) G d_S_countOf_29 (by decide) ?_
        refine ww_sub [2, 3, 1, 0] rfl ?_
        exact ih _ _ _ h
def f_S_countOf (i0 : Nat) (x1 : Int32) (s : Mem) : RR :=
  mm_lp (fun kk => lp_S_countOf_6 i0 x1 kk FU ((0 : Int32)) (x1 * ((4 : Int32))) s) fun x2_6 s6 =>
  mm_ri x2_6 s6
set_option maxRecDepth 100000 in
set_option maxHeartbeats 4000000 in
theorem c_S_countOf {l : Launch} {K : KK} (i0 : Nat) (x1 : Int32) (h0 : i0 < 12) (s : Mem) (o : Oc) (q : Mem) (h : f_S_countOf i0 x1 s = some (o, q)) : Ct l K y_S_countOf b_S_countOf 4 (some .int) 1 21 [.ref (aa K 7 i0), .int x1] s o q := by
  refine Ct_of (own := "VillageMail$Store") (L := [(0, _), (1, _)]) (by decide +kernel) rfl (Nat.le_of_ble_eq_true rfl) rfl (fun Γ G E => ?_)
  unfold f_S_countOf at h
  refine ww_iconst (v := (0 : Int32)) G d_S_countOf_0 ic_0 ?_
  refine ww_istore_n (L' := [(2, _), (0, _), (1, _)]) G d_S_countOf_1 rfl (by decide) rfl ?_
  refine ww_iload_n 2 G d_S_countOf_2 rfl rfl ?_
  refine ww_iconst (v := (4 : Int32)) G d_S_countOf_3 ic_4 ?_
  refine ww_imul G d_S_countOf_4 ?_
  refine ww_istore_n (L' := [(3, _), (2, _), (0, _), (1, _)]) G d_S_countOf_5 rfl (by decide) rfl ?_
  refine ww_sub [2, 3, 1, 0] rfl ?_
  refine lp_S_countOf_6_ok i0 x1 h0 _ G E (fun x2_6 s6 h => ?_) FU _ _ _ h
  refine ww_iload_n 0 G d_S_countOf_32 rfl rfl ?_
  exact ww_iret G E d_S_countOf_33 h
def f_S_take (i0 : Nat) (x1 : Int32) (x2 : Int64) (x4 : Int32) (s : Mem) : RR :=
  mm_st s 8 i0 64 x1 x4 fun s7 =>
  mm_st s7 9 i0 64 x1 x4 fun s15 =>
  mm_stj s15 10 i0 64 x1 x2 fun s22 =>
  mm_gf s22 7 i0 5 fun v25 =>
  mm_pf s22 7 i0 5 (v25 + ((1 : Int32))) fun s30 =>
  mm_rv s30
set_option maxRecDepth 100000 in
set_option maxHeartbeats 4000000 in
theorem c_S_take {l : Launch} {K : KK} (i0 : Nat) (x1 : Int32) (x2 : Int64) (x4 : Int32) (h0 : i0 < 12) (s : Mem) (o : Oc) (q : Mem) (h : f_S_take i0 x1 x2 x4 s = some (o, q)) : Ct l K y_S_take b_S_take 5 none 0 0 [.ref (aa K 7 i0), .int x1, .long x2, .int x4] s o q := by
  refine Ct_of (own := "VillageMail$Store") (L := [(0, _), (1, _), (2, _), (4, _)]) (by decide +kernel) rfl (Nat.le_of_ble_eq_true rfl) rfl (fun Γ G E => ?_)
  unfold f_S_take at h
  refine ww_aload_n 0 G d_S_take_0 rfl rfl ?_
  refine ww_getr G fs_S_15 h0 d_S_take_1 ?_
  refine ww_iload_n 1 G d_S_take_4 rfl rfl ?_
  refine ww_iload 3 G d_S_take_5 rfl ?_
  refine ww_iastore G ar_8 h0 d_S_take_7 h (fun s7 h => ?_)
  refine ww_aload_n 0 G d_S_take_8 rfl rfl ?_
  refine ww_getr G fs_S_25 h0 d_S_take_9 ?_
  refine ww_iload_n 1 G d_S_take_12 rfl rfl ?_
  refine ww_iload 3 G d_S_take_13 rfl ?_
  refine ww_iastore G ar_9 h0 d_S_take_15 h (fun s15 h => ?_)
  refine ww_aload_n 0 G d_S_take_16 rfl rfl ?_
  refine ww_getr G fs_S_28 h0 d_S_take_17 ?_
  refine ww_iload_n 1 G d_S_take_20 rfl rfl ?_
  refine ww_lload_n 2 G d_S_take_21 rfl rfl ?_
  refine ww_lastore G ar_10 h0 d_S_take_22 h (fun s22 h => ?_)
  refine ww_aload_n 0 G d_S_take_23 rfl rfl ?_
  refine ww_dup G d_S_take_24 rfl ?_
  refine ww_getf G fs_S_35 h0 d_S_take_25 h (fun v25 h => ?_)
  refine ww_iconst (v := (1 : Int32)) G d_S_take_28 ic_1 ?_
  refine ww_iadd G d_S_take_29 ?_
  refine ww_putf G fs_S_35 h0 d_S_take_30 h (fun s30 h => ?_)
  exact ww_vret G E d_S_take_33 h
def f_S_free (i0 : Nat) (x1 : Int32) (s : Mem) : RR :=
  mm_cI (f_S_has i0 x1 s) fun v2 s2 =>
  if v2 = 0 then (
    mm_rv s2
  ) else (
    mm_st s2 8 i0 64 x1 ((-1 : Int32)) fun s14 =>
    mm_gf s14 7 i0 5 fun v17 =>
    mm_pf s14 7 i0 5 (v17 - ((1 : Int32))) fun s22 =>
    mm_rv s22
  )
set_option maxRecDepth 100000 in
set_option maxHeartbeats 4000000 in
theorem c_S_free {l : Launch} {K : KK} (i0 : Nat) (x1 : Int32) (h0 : i0 < 12) (s : Mem) (o : Oc) (q : Mem) (h : f_S_free i0 x1 s = some (o, q)) : Ct l K y_S_free b_S_free 2 none 1 21 [.ref (aa K 7 i0), .int x1] s o q := by
  refine Ct_of (own := "VillageMail$Store") (L := [(0, _), (1, _)]) (by decide +kernel) rfl (Nat.le_of_ble_eq_true rfl) rfl (fun Γ G E => ?_)
  unfold f_S_free at h
  refine ww_aload_n 0 G d_S_free_0 rfl rfl ?_
  refine ww_iload_n 1 G d_S_free_1 rfl rfl ?_
  refine ww_cvI (As := [_]) G E cs_S_38 h0 (fun o q h => c_S_has i0 x1 h0 _ _ _ h) rfl rfl (Nat.le_of_ble_eq_true rfl) d_S_free_2 (by decide) h (fun v2 s2 h => ?_)
  refine ww_ifeq (tgt := 25) G d_S_free_5 (by decide) h (fun h => ?_) (fun h => ?_)
  · skip
    exact ww_vret G E d_S_free_25 h
  · skip
    refine ww_aload_n 0 G d_S_free_8 rfl rfl ?_
    refine ww_getr G fs_S_15 h0 d_S_free_9 ?_
    refine ww_iload_n 1 G d_S_free_12 rfl rfl ?_
    refine ww_iconst (v := (-1 : Int32)) G d_S_free_13 ic_m1 ?_
    refine ww_iastore G ar_8 h0 d_S_free_14 h (fun s14 h => ?_)
    refine ww_aload_n 0 G d_S_free_15 rfl rfl ?_
    refine ww_dup G d_S_free_16 rfl ?_
    refine ww_getf G fs_S_35 h0 d_S_free_17 h (fun v17 h => ?_)
    refine ww_iconst (v := (1 : Int32)) G d_S_free_20 ic_1 ?_
    refine ww_isub G d_S_free_21 ?_
    refine ww_putf G fs_S_35 h0 d_S_free_22 h (fun s22 h => ?_)
    exact ww_vret G E d_S_free_25 h
def lp_S_freeAllOf_4 (i0 : Nat) (x1 : Int32) (k : Mem → RR) : Nat → Int32 → Mem → RR
  | 0, _, _ => none
  | n + 1, x2, s =>
    if ((x1 + ((1 : Int32))) * ((4 : Int32))) ≤ x2 then (
      k s
    ) else (
      mm_cV (f_S_free i0 x2 s) fun s15 =>
      lp_S_freeAllOf_4 i0 x1 k n (x2 + (1 : Int32)) s15
    )
set_option maxRecDepth 100000 in
set_option maxHeartbeats 4000000 in
theorem lp_S_freeAllOf_4_ok {K : KK} {Γ : Cx} {o : Oc} {q : Mem} (i0 : Nat) (x1 : Int32) (h0 : i0 < 12) (k : Mem → RR) (G : Good K Γ b_S_freeAllOf "VillageMail$Store" 3 2 42) (E : Ends K Γ none o q)
    (Kx : ∀  (s : Mem), k s = some (o, q) → WW K Γ 0 s 24 [] []) :
    ∀ (n : Nat) (x2 : Int32) (s : Mem), lp_S_freeAllOf_4 i0 x1 k n x2 s = some (o, q) → WW K Γ 0 s 4 [(0, .ref (aa K 7 i0)), (1, .int x1), (2, .int x2)] [] := by
  intro n
  induction n with
  | zero => intro _ _ h; exact nomatch h
  | succ n ih =>
    intro x2 s h
    unfold lp_S_freeAllOf_4 at h
    refine ww_iload_n 2 G d_S_freeAllOf_4 rfl rfl ?_
    refine ww_iload_n 1 G d_S_freeAllOf_5 rfl rfl ?_
    refine ww_iconst (v := (1 : Int32)) G d_S_freeAllOf_6 ic_1 ?_
    refine ww_iadd G d_S_freeAllOf_7 ?_
    refine ww_iconst (v := (4 : Int32)) G d_S_freeAllOf_8 ic_4 ?_
    refine ww_imul G d_S_freeAllOf_9 ?_
    refine ww_icmpge (tgt := 24) G d_S_freeAllOf_10 (by decide) h (fun h => ?_) (fun h => ?_)
    · skip
      refine ww_sub [] rfl ?_
      exact Kx  _ h
    · skip
      refine ww_aload_n 0 G d_S_freeAllOf_13 rfl rfl ?_
      refine ww_iload_n 2 G d_S_freeAllOf_14 rfl rfl ?_
      refine ww_cvV (As := [_]) G E cs_S_42 h0 (fun o q h => c_S_free i0 x2 h0 _ _ _ h) rfl rfl (Nat.le_of_ble_eq_true rfl) d_S_freeAllOf_15 (by decide) h (fun s15 h => ?_)
      refine ww_iinc 2 (L' := [(2, _), (0, _), (1, _)]) G d_S_freeAllOf_18 rfl ic_1 (by decide) rfl ?_
      refine ww_goto (tgt := 4) G d_S_freeAllOf_21 (by decide) ?_
      refine ww_sub [1, 2, 0] rfl ?_
      exact ih _ _ h
def f_S_freeAllOf (i0 : Nat) (x1 : Int32) (s : Mem) : RR :=
  mm_lp (fun kk => lp_S_freeAllOf_4 i0 x1 kk FU (x1 * ((4 : Int32))) s) fun s4 =>
  mm_rv s4
set_option maxRecDepth 100000 in
set_option maxHeartbeats 4000000 in
theorem c_S_freeAllOf {l : Launch} {K : KK} (i0 : Nat) (x1 : Int32) (h0 : i0 < 12) (s : Mem) (o : Oc) (q : Mem) (h : f_S_freeAllOf i0 x1 s = some (o, q)) : Ct l K y_S_freeAllOf b_S_freeAllOf 3 none 2 42 [.ref (aa K 7 i0), .int x1] s o q := by
  refine Ct_of (own := "VillageMail$Store") (L := [(0, _), (1, _)]) (by decide +kernel) rfl (Nat.le_of_ble_eq_true rfl) rfl (fun Γ G E => ?_)
  unfold f_S_freeAllOf at h
  refine ww_iload_n 1 G d_S_freeAllOf_0 rfl rfl ?_
  refine ww_iconst (v := (4 : Int32)) G d_S_freeAllOf_1 ic_4 ?_
  refine ww_imul G d_S_freeAllOf_2 ?_
  refine ww_istore_n (L' := [(2, _), (0, _), (1, _)]) G d_S_freeAllOf_3 rfl (by decide) rfl ?_
  refine ww_sub [1, 2, 0] rfl ?_
  refine lp_S_freeAllOf_4_ok i0 x1 h0 _ G E (fun s4 h => ?_) FU _ _ h
  exact ww_vret G E d_S_freeAllOf_24 h
def f_S_learnHops (i0 : Nat) (x1 : Int32) (x2 : Int32) (s : Mem) : RR :=
  mm_st s 9 i0 64 x1 x2 fun s6 =>
  mm_ld s6 8 i0 64 x1 fun v13 =>
  if x2 ≤ v13 then (
    mm_rv s6
  ) else (
    mm_cV (f_S_free i0 x1 s6) fun s19 =>
    mm_rv s19
  )
set_option maxRecDepth 100000 in
set_option maxHeartbeats 4000000 in
theorem c_S_learnHops {l : Launch} {K : KK} (i0 : Nat) (x1 : Int32) (x2 : Int32) (h0 : i0 < 12) (s : Mem) (o : Oc) (q : Mem) (h : f_S_learnHops i0 x1 x2 s = some (o, q)) : Ct l K y_S_learnHops b_S_learnHops 3 none 2 42 [.ref (aa K 7 i0), .int x1, .int x2] s o q := by
  refine Ct_of (own := "VillageMail$Store") (L := [(0, _), (1, _), (2, _)]) (by decide +kernel) rfl (Nat.le_of_ble_eq_true rfl) rfl (fun Γ G E => ?_)
  unfold f_S_learnHops at h
  refine ww_aload_n 0 G d_S_learnHops_0 rfl rfl ?_
  refine ww_getr G fs_S_25 h0 d_S_learnHops_1 ?_
  refine ww_iload_n 1 G d_S_learnHops_4 rfl rfl ?_
  refine ww_iload_n 2 G d_S_learnHops_5 rfl rfl ?_
  refine ww_iastore G ar_9 h0 d_S_learnHops_6 h (fun s6 h => ?_)
  refine ww_iload_n 2 G d_S_learnHops_7 rfl rfl ?_
  refine ww_aload_n 0 G d_S_learnHops_8 rfl rfl ?_
  refine ww_getr G fs_S_15 h0 d_S_learnHops_9 ?_
  refine ww_iload_n 1 G d_S_learnHops_12 rfl rfl ?_
  refine ww_iaload G ar_8 h0 d_S_learnHops_13 h (fun v13 h => ?_)
  refine ww_icmple (tgt := 22) G d_S_learnHops_14 (by decide) h (fun h => ?_) (fun h => ?_)
  · skip
    exact ww_vret G E d_S_learnHops_22 h
  · skip
    refine ww_aload_n 0 G d_S_learnHops_17 rfl rfl ?_
    refine ww_iload_n 1 G d_S_learnHops_18 rfl rfl ?_
    refine ww_cvV (As := [_]) G E cs_S_42 h0 (fun o q h => c_S_free i0 x1 h0 _ _ _ h) rfl rfl (Nat.le_of_ble_eq_true rfl) d_S_learnHops_19 (by decide) h (fun s19 h => ?_)
    exact ww_vret G E d_S_learnHops_22 h
def f_S_unlearn (i0 : Nat) (x1 : Int32) (s : Mem) : RR :=
  mm_ld s 9 i0 64 x1 fun v6 =>
  mm_st s 9 i0 64 x1 (v6 - ((1 : Int32))) fun s9 =>
  mm_ld s9 9 i0 64 x1 fun v20 =>
  mm_st s9 8 i0 64 x1 v20 fun s21 =>
  mm_gf s21 7 i0 5 fun v24 =>
  mm_pf s21 7 i0 5 (v24 + ((1 : Int32))) fun s29 =>
  mm_rv s29
set_option maxRecDepth 100000 in
set_option maxHeartbeats 4000000 in
theorem c_S_unlearn {l : Launch} {K : KK} (i0 : Nat) (x1 : Int32) (h0 : i0 < 12) (s : Mem) (o : Oc) (q : Mem) (h : f_S_unlearn i0 x1 s = some (o, q)) : Ct l K y_S_unlearn b_S_unlearn 2 none 0 0 [.ref (aa K 7 i0), .int x1] s o q := by
  refine Ct_of (own := "VillageMail$Store") (L := [(0, _), (1, _)]) (by decide +kernel) rfl (Nat.le_of_ble_eq_true rfl) rfl (fun Γ G E => ?_)
  unfold f_S_unlearn at h
  refine ww_aload_n 0 G d_S_unlearn_0 rfl rfl ?_
  refine ww_getr G fs_S_25 h0 d_S_unlearn_1 ?_
  refine ww_iload_n 1 G d_S_unlearn_4 rfl rfl ?_
  refine ww_dup2 G d_S_unlearn_5 rfl rfl ?_
  refine ww_iaload G ar_9 h0 d_S_unlearn_6 h (fun v6 h => ?_)
  refine ww_iconst (v := (1 : Int32)) G d_S_unlearn_7 ic_1 ?_
  refine ww_isub G d_S_unlearn_8 ?_
  refine ww_iastore G ar_9 h0 d_S_unlearn_9 h (fun s9 h => ?_)
  refine ww_aload_n 0 G d_S_unlearn_10 rfl rfl ?_
  refine ww_getr G fs_S_15 h0 d_S_unlearn_11 ?_
  refine ww_iload_n 1 G d_S_unlearn_14 rfl rfl ?_
  refine ww_aload_n 0 G d_S_unlearn_15 rfl rfl ?_
  refine ww_getr G fs_S_25 h0 d_S_unlearn_16 ?_
  refine ww_iload_n 1 G d_S_unlearn_19 rfl rfl ?_
  refine ww_iaload G ar_9 h0 d_S_unlearn_20 h (fun v20 h => ?_)
  refine ww_iastore G ar_8 h0 d_S_unlearn_21 h (fun s21 h => ?_)
  refine ww_aload_n 0 G d_S_unlearn_22 rfl rfl ?_
  refine ww_dup G d_S_unlearn_23 rfl ?_
  refine ww_getf G fs_S_35 h0 d_S_unlearn_24 h (fun v24 h => ?_)
  refine ww_iconst (v := (1 : Int32)) G d_S_unlearn_27 ic_1 ?_
  refine ww_iadd G d_S_unlearn_28 ?_
  refine ww_putf G fs_S_35 h0 d_S_unlearn_29 h (fun s29 h => ?_)
  exact ww_vret G E d_S_unlearn_32 h
def f_S_learnOf (i0 : Nat) (x1 : Int32) (x2 : Int32) (s : Mem) : RR :=
  mm_st s 11 i0 16 x1 x2 fun s6 =>
  if x2 = 0 then (
    mm_rv s6
  ) else (
    mm_cV (f_S_freeAllOf i0 x1 s6) fun s13 =>
    mm_rv s13
  )
set_option maxRecDepth 100000 in
set_option maxHeartbeats 4000000 in
theorem c_S_learnOf {l : Launch} {K : KK} (i0 : Nat) (x1 : Int32) (x2 : Int32) (h0 : i0 < 12) (s : Mem) (o : Oc) (q : Mem) (h : f_S_learnOf i0 x1 x2 s = some (o, q)) : Ct l K y_S_learnOf b_S_learnOf 3 none 3 64 [.ref (aa K 7 i0), .int x1, .int x2] s o q := by
  refine Ct_of (own := "VillageMail$Store") (L := [(0, _), (1, _), (2, _)]) (by decide +kernel) rfl (Nat.le_of_ble_eq_true rfl) rfl (fun Γ G E => ?_)
  unfold f_S_learnOf at h
  refine ww_aload_n 0 G d_S_learnOf_0 rfl rfl ?_
  refine ww_getr G fs_S_32 h0 d_S_learnOf_1 ?_
  refine ww_iload_n 1 G d_S_learnOf_4 rfl rfl ?_
  refine ww_iload_n 2 G d_S_learnOf_5 rfl rfl ?_
  refine ww_iastore G ar_11 h0 d_S_learnOf_6 h (fun s6 h => ?_)
  refine ww_iload_n 2 G d_S_learnOf_7 rfl rfl ?_
  refine ww_ifeq (tgt := 16) G d_S_learnOf_8 (by decide) h (fun h => ?_) (fun h => ?_)
  · skip
    exact ww_vret G E d_S_learnOf_16 h
  · skip
    refine ww_aload_n 0 G d_S_learnOf_11 rfl rfl ?_
    refine ww_iload_n 1 G d_S_learnOf_12 rfl rfl ?_
    refine ww_cvV (As := [_]) G E cs_S_46 h0 (fun o q h => c_S_freeAllOf i0 x1 h0 _ _ _ h) rfl rfl (Nat.le_of_ble_eq_true rfl) d_S_learnOf_13 (by decide) h (fun s13 h => ?_)
    exact ww_vret G E d_S_learnOf_16 h
def lp_S_forgetPieces_2 (i0 : Nat) (k : Mem → RR) : Nat → Int32 → Mem → RR
  | 0, _, _ => none
  | n + 1, x1, s =>
    if ((64 : Int32)) ≤ x1 then (
      k s
    ) else (
      mm_cI (f_S_has i0 x1 s) fun v10 s10 =>
      if ¬ v10 = 0 then (
        lp_S_forgetPieces_2 i0 k n (x1 + (1 : Int32)) s10
      ) else (
        mm_st s10 9 i0 64 x1 ((0 : Int32)) fun s22 =>
        lp_S_forgetPieces_2 i0 k n (x1 + (1 : Int32)) s22
      )
    )
set_option maxRecDepth 100000 in
set_option maxHeartbeats 4000000 in
theorem lp_S_forgetPieces_2_ok {K : KK} {Γ : Cx} {o : Oc} {q : Mem} (i0 : Nat) (h0 : i0 < 12) (k : Mem → RR) (G : Good K Γ b_S_forgetPieces "VillageMail$Store" 2 1 21) (E : Ends K Γ none o q)
    (Kx : ∀  (s : Mem), k s = some (o, q) → WW K Γ 0 s 29 [] []) :
    ∀ (n : Nat) (x1 : Int32) (s : Mem), lp_S_forgetPieces_2 i0 k n x1 s = some (o, q) → WW K Γ 0 s 2 [(0, .ref (aa K 7 i0)), (1, .int x1)] [] := by
  intro n
  induction n with
  | zero => intro _ _ h; exact nomatch h
  | succ n ih =>
    intro x1 s h
    unfold lp_S_forgetPieces_2 at h
    refine ww_iload_n 1 G d_S_forgetPieces_2 rfl rfl ?_
    refine ww_bipush (v := (64 : Int32)) G d_S_forgetPieces_3 ib_64 ?_
    refine ww_icmpge (tgt := 29) G d_S_forgetPieces_5 (by decide) h (fun h => ?_) (fun h => ?_)
    · skip
      refine ww_sub [] rfl ?_
      exact Kx  _ h
    · skip
      refine ww_aload_n 0 G d_S_forgetPieces_8 rfl rfl ?_
      refine ww_iload_n 1 G d_S_forgetPieces_9 rfl rfl ?_
      refine ww_cvI (As := [_]) G E cs_S_38 h0 (fun o q h => c_S_has i0 x1 h0 _ _ _ h) rfl rfl (Nat.le_of_ble_eq_true rfl) d_S_forgetPieces_10 (by decide) h (fun v10 s10 h => ?_)
      refine ww_ifne (tgt := 23) G d_S_forgetPieces_13 (by decide) h (fun h => ?_) (fun h => ?_)
      · skip
        refine ww_iinc 1 (L' := [(1, _), (0, _)]) G d_S_forgetPieces_23 rfl ic_1 (by decide) rfl ?_
        refine ww_goto (tgt := 2) G d_S_forgetPieces_26 (by decide) ?_
        refine ww_sub [1, 0] rfl ?_
        exact ih _ _ h
      · skip
        refine ww_aload_n 0 G d_S_forgetPieces_16 rfl rfl ?_
        refine ww_getr G fs_S_25 h0 d_S_forgetPieces_17 ?_
        refine ww_iload_n 1 G d_S_forgetPieces_20 rfl rfl ?_
        refine ww_iconst (v := (0 : Int32)) G d_S_forgetPieces_21 ic_0 ?_
        refine ww_iastore G ar_9 h0 d_S_forgetPieces_22 h (fun s22 h => ?_)
        refine ww_iinc 1 (L' := [(1, _), (0, _)]) G d_S_forgetPieces_23 rfl ic_1 (by decide) rfl ?_
        refine ww_goto (tgt := 2) G d_S_forgetPieces_26 (by decide) ?_
        refine ww_sub [1, 0] rfl ?_
        exact ih _ _ h
def f_S_forgetPieces (i0 : Nat) (s : Mem) : RR :=
  mm_lp (fun kk => lp_S_forgetPieces_2 i0 kk FU ((0 : Int32)) s) fun s2 =>
  mm_rv s2
set_option maxRecDepth 100000 in
set_option maxHeartbeats 4000000 in
theorem c_S_forgetPieces {l : Launch} {K : KK} (i0 : Nat) (h0 : i0 < 12) (s : Mem) (o : Oc) (q : Mem) (h : f_S_forgetPieces i0 s = some (o, q)) : Ct l K y_S_forgetPieces b_S_forgetPieces 2 none 1 21 [.ref (aa K 7 i0)] s o q := by
  refine Ct_of (own := "VillageMail$Store") (L := [(0, _)]) (by decide +kernel) rfl (Nat.le_of_ble_eq_true rfl) rfl (fun Γ G E => ?_)
  unfold f_S_forgetPieces at h
  refine ww_iconst (v := (0 : Int32)) G d_S_forgetPieces_0 ic_0 ?_
  refine ww_istore_n (L' := [(1, _), (0, _)]) G d_S_forgetPieces_1 rfl (by decide) rfl ?_
  refine ww_sub [1, 0] rfl ?_
  refine lp_S_forgetPieces_2_ok i0 h0 _ G E (fun s2 h => ?_) FU _ _ h
  exact ww_vret G E d_S_forgetPieces_29 h
def lp_R_clear_20 (i0 : Nat) (k : Mem → RR) : Nat → Int32 → Mem → RR
  | 0, _, _ => none
  | n + 1, x1, s =>
    if ((4 : Int32)) ≤ x1 then (
      k s
    ) else (
      mm_sz s 25 i0 4 x1 ((0 : Int32)) fun s31 =>
      lp_R_clear_20 i0 k n (x1 + (1 : Int32)) s31
    )
set_option maxRecDepth 100000 in
set_option maxHeartbeats 4000000 in
theorem lp_R_clear_20_ok {K : KK} {Γ : Cx} {o : Oc} {q : Mem} (i0 : Nat) (h0 : i0 < 2) (k : Mem → RR) (G : Good K Γ b_R_clear "VillageMail$Ride" 2 1 24) (E : Ends K Γ none o q)
    (Kx : ∀  (s : Mem), k s = some (o, q) → WW K Γ 0 s 38 [] []) :
    ∀ (n : Nat) (x1 : Int32) (s : Mem), lp_R_clear_20 i0 k n x1 s = some (o, q) → WW K Γ 0 s 20 [(0, .ref (aa K 22 i0)), (1, .int x1)] [] := by
  intro n
  induction n with
  | zero => intro _ _ h; exact nomatch h
  | succ n ih =>
    intro x1 s h
    unfold lp_R_clear_20 at h
    refine ww_iload_n 1 G d_R_clear_20 rfl rfl ?_
    refine ww_iconst (v := (4 : Int32)) G d_R_clear_21 ic_4 ?_
    refine ww_icmpge (tgt := 38) G d_R_clear_22 (by decide) h (fun h => ?_) (fun h => ?_)
    · skip
      refine ww_sub [] rfl ?_
      exact Kx  _ h
    · skip
      refine ww_aload_n 0 G d_R_clear_25 rfl rfl ?_
      refine ww_getr G fs_R_18 h0 d_R_clear_26 ?_
      refine ww_iload_n 1 G d_R_clear_29 rfl rfl ?_
      refine ww_iconst (v := (0 : Int32)) G d_R_clear_30 ic_0 ?_
      refine ww_bastore G ar_25 h0 d_R_clear_31 h (fun s31 h => ?_)
      refine ww_iinc 1 (L' := [(1, _), (0, _)]) G d_R_clear_32 rfl ic_1 (by decide) rfl ?_
      refine ww_goto (tgt := 20) G d_R_clear_35 (by decide) ?_
      refine ww_sub [1, 0] rfl ?_
      exact ih _ _ h
def f_R_clear (i0 : Nat) (s : Mem) : RR :=
  mm_cV (f_A_fill 23 i0 8 ((2147483647 : Int32)) s) fun s6 =>
  mm_cV (f_A_fill 24 i0 8 ((2147483647 : Int32)) s6) fun s15 =>
  mm_lp (fun kk => lp_R_clear_20 i0 kk FU ((0 : Int32)) s15) fun s20 =>
  mm_rv s20
set_option maxRecDepth 100000 in
set_option maxHeartbeats 4000000 in
theorem c_R_clear {l : Launch} {K : KK} (i0 : Nat) (h0 : i0 < 2) (s : Mem) (o : Oc) (q : Mem) (h : f_R_clear i0 s = some (o, q)) : Ct l K y_R_clear b_R_clear 2 none 1 24 [.ref (aa K 22 i0)] s o q := by
  refine Ct_of (own := "VillageMail$Ride") (L := [(0, _)]) (by decide +kernel) rfl (Nat.le_of_ble_eq_true rfl) rfl (fun Γ G E => ?_)
  unfold f_R_clear at h
  refine ww_aload_n 0 G d_R_clear_0 rfl rfl ?_
  refine ww_getr G fs_R_9 h0 d_R_clear_1 ?_
  refine ww_ldc (v := (2147483647 : Int32)) G d_R_clear_4 kw_R_29 ?_
  refine ww_csV (As := [_, _]) G E cs_R_30 (fun o q h => c_A_fill 23 i0 8 ar_23 h0 _ _ h) rfl rfl (Nat.le_of_ble_eq_true rfl) d_R_clear_6 (by decide) h (fun s6 h => ?_)
  refine ww_aload_n 0 G d_R_clear_9 rfl rfl ?_
  refine ww_getr G fs_R_15 h0 d_R_clear_10 ?_
  refine ww_ldc (v := (2147483647 : Int32)) G d_R_clear_13 kw_R_29 ?_
  refine ww_csV (As := [_, _]) G E cs_R_30 (fun o q h => c_A_fill 24 i0 8 ar_24 h0 _ _ h) rfl rfl (Nat.le_of_ble_eq_true rfl) d_R_clear_15 (by decide) h (fun s15 h => ?_)
  refine ww_iconst (v := (0 : Int32)) G d_R_clear_18 ic_0 ?_
  refine ww_istore_n (L' := [(1, _), (0, _)]) G d_R_clear_19 rfl (by decide) rfl ?_
  refine ww_sub [1, 0] rfl ?_
  refine lp_R_clear_20_ok i0 h0 _ G E (fun s20 h => ?_) FU _ _ h
  exact ww_vret G E d_R_clear_38 h
def f_J_floorMod (x0 : Int32) (x1 : Int32) (s : Mem) : RR :=
  mm_nz x1 <|
  if 0 ≤ (x0 ^^^ x1) then (
    mm_ri (mm_irem x0 x1) s
  ) else (
    if (mm_irem x0 x1) = 0 then (
      mm_ri (mm_irem x0 x1) s
    ) else (
      mm_ri ((mm_irem x0 x1) + x1) s
    )
  )
set_option maxRecDepth 100000 in
set_option maxHeartbeats 4000000 in
theorem c_J_floorMod {l : Launch} {K : KK} (x0 : Int32) (x1 : Int32)  (s : Mem) (o : Oc) (q : Mem) (h : f_J_floorMod x0 x1 s = some (o, q)) : Ct l K y_J_floorMod b_J_floorMod 3 (some .int) 0 0 [.int x0, .int x1] s o q := by
  refine Ct_of (own := "java/lang/Math") (L := [(0, _), (1, _)]) (by decide +kernel) rfl (Nat.le_of_ble_eq_true rfl) rfl (fun Γ G E => ?_)
  unfold f_J_floorMod at h
  refine ww_iload_n 0 G d_J_floorMod_0 rfl rfl ?_
  refine ww_iload_n 1 G d_J_floorMod_1 rfl rfl ?_
  refine ww_iremz G d_J_floorMod_2 h (fun h => ?_)
  refine ww_istore_n (L' := [(2, _), (0, _), (1, _)]) G d_J_floorMod_3 rfl (by decide) rfl ?_
  refine ww_iload_n 1 G d_J_floorMod_4 rfl rfl ?_
  refine ww_iload_n 2 G d_J_floorMod_5 rfl rfl ?_
  refine ww_ixor G d_J_floorMod_6 ?_
  refine ww_ifge (tgt := 18) G d_J_floorMod_7 (by decide) h (fun h => ?_) (fun h => ?_)
  · skip
    refine ww_iload_n 0 G d_J_floorMod_18 rfl rfl ?_
    exact ww_iret G E d_J_floorMod_19 h
  · skip
    refine ww_iload_n 0 G d_J_floorMod_10 rfl rfl ?_
    refine ww_ifeq (tgt := 18) G d_J_floorMod_11 (by decide) h (fun h => ?_) (fun h => ?_)
    · skip
      refine ww_iload_n 0 G d_J_floorMod_18 rfl rfl ?_
      exact ww_iret G E d_J_floorMod_19 h
    · skip
      refine ww_iload_n 0 G d_J_floorMod_14 rfl rfl ?_
      refine ww_iload_n 2 G d_J_floorMod_15 rfl rfl ?_
      refine ww_iadd G d_J_floorMod_16 ?_
      exact ww_iret G E d_J_floorMod_17 h
def f_R_seeStop (i0 : Nat) (x1 : Int32) (x2 : Int32) (x3 : Int32) (s : Mem) : RR :=
  mm_ld s 25 i0 4 x1 fun v5 =>
  mm_jn (fun (y36 : Unit) s36 =>
    mm_ld s36 24 i0 8 x2 fun v41 =>
    if x3 < v41 then (
      mm_rv s36
    ) else (
      mm_sz s36 25 i0 4 x1 ((1 : Int32)) fun s52 =>
      mm_rv s52
    )
  ) (fun r36 =>
  if v5 = 0 then (
    r36 () s
  ) else (
    mm_ld s 23 i0 8 x2 fun v14 =>
    if ¬ v14 = ((2147483647 : Int32)) then (
      r36 () s
    ) else (
      mm_st s 23 i0 8 x2 x3 fun s26 =>
      mm_st s26 24 i0 8 x2 (x3 + ((1 : Int32))) fun s35 =>
      r36 () s35
    )
  ))
set_option maxRecDepth 100000 in
set_option maxHeartbeats 4000000 in
theorem c_R_seeStop {l : Launch} {K : KK} (i0 : Nat) (x1 : Int32) (x2 : Int32) (x3 : Int32) (h0 : i0 < 2) (s : Mem) (o : Oc) (q : Mem) (h : f_R_seeStop i0 x1 x2 x3 s = some (o, q)) : Ct l K y_R_seeStop b_R_seeStop 4 none 0 0 [.ref (aa K 22 i0), .int x1, .int x2, .int x3] s o q := by
  refine Ct_of (own := "VillageMail$Ride") (L := [(0, _), (1, _), (2, _), (3, _)]) (by decide +kernel) rfl (Nat.le_of_ble_eq_true rfl) rfl (fun Γ G E => ?_)
  unfold f_R_seeStop at h
  refine ww_aload_n 0 G d_R_seeStop_0 rfl rfl ?_
  refine ww_getr G fs_R_18 h0 d_R_seeStop_1 ?_
  refine ww_iload_n 1 G d_R_seeStop_4 rfl rfl ?_
  refine ww_baload G ar_25 h0 d_R_seeStop_5 h (fun v5 h => ?_)
  refine ww_jn h (fun (y36 : Unit) (s36 : Mem) => WW K Γ 0 s36 36 [(0, .ref (aa K 22 i0)), (1, .int x1), (2, .int x2), (3, .int x3)] []) (fun y36 s36 h => ?_) (fun r36 J36 h => ?_)
  · skip
    refine ww_aload_n 0 G d_R_seeStop_36 rfl rfl ?_
    refine ww_getr G fs_R_15 h0 d_R_seeStop_37 ?_
    refine ww_iload_n 2 G d_R_seeStop_40 rfl rfl ?_
    refine ww_iaload G ar_24 h0 d_R_seeStop_41 h (fun v41 h => ?_)
    refine ww_iload_n 3 G d_R_seeStop_42 rfl rfl ?_
    refine ww_icmpgt (tgt := 53) G d_R_seeStop_43 (by decide) h (fun h => ?_) (fun h => ?_)
    · skip
      exact ww_vret G E d_R_seeStop_53 h
    · skip
      refine ww_aload_n 0 G d_R_seeStop_46 rfl rfl ?_
      refine ww_getr G fs_R_18 h0 d_R_seeStop_47 ?_
      refine ww_iload_n 1 G d_R_seeStop_50 rfl rfl ?_
      refine ww_iconst (v := (1 : Int32)) G d_R_seeStop_51 ic_1 ?_
      refine ww_bastore G ar_25 h0 d_R_seeStop_52 h (fun s52 h => ?_)
      exact ww_vret G E d_R_seeStop_53 h
  refine ww_ifeq (tgt := 36) G d_R_seeStop_6 (by decide) h (fun h => ?_) (fun h => ?_)
  · skip
    exact J36 _ _ h
  · skip
    refine ww_aload_n 0 G d_R_seeStop_9 rfl rfl ?_
    refine ww_getr G fs_R_9 h0 d_R_seeStop_10 ?_
    refine ww_iload_n 2 G d_R_seeStop_13 rfl rfl ?_
    refine ww_iaload G ar_23 h0 d_R_seeStop_14 h (fun v14 h => ?_)
    refine ww_ldc (v := (2147483647 : Int32)) G d_R_seeStop_15 kw_R_29 ?_
    refine ww_icmpne (tgt := 36) G d_R_seeStop_17 (by decide) h (fun h => ?_) (fun h => ?_)
    · skip
      exact J36 _ _ h
    · skip
      refine ww_aload_n 0 G d_R_seeStop_20 rfl rfl ?_
      refine ww_getr G fs_R_9 h0 d_R_seeStop_21 ?_
      refine ww_iload_n 2 G d_R_seeStop_24 rfl rfl ?_
      refine ww_iload_n 3 G d_R_seeStop_25 rfl rfl ?_
      refine ww_iastore G ar_23 h0 d_R_seeStop_26 h (fun s26 h => ?_)
      refine ww_aload_n 0 G d_R_seeStop_27 rfl rfl ?_
      refine ww_getr G fs_R_15 h0 d_R_seeStop_28 ?_
      refine ww_iload_n 2 G d_R_seeStop_31 rfl rfl ?_
      refine ww_iload_n 3 G d_R_seeStop_32 rfl rfl ?_
      refine ww_iconst (v := (1 : Int32)) G d_R_seeStop_33 ic_1 ?_
      refine ww_iadd G d_R_seeStop_34 ?_
      refine ww_iastore G ar_24 h0 d_R_seeStop_35 h (fun s35 h => ?_)
      exact J36 _ _ h

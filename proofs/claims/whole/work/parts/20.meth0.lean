def f_B_fits (i0 : Nat) (x1 : Int32) (s : Mem) : RR :=
  mm_gf s 16 i0 2 fun v1 =>
  mm_gf s 16 i0 3 fun v7 =>
  if v7 < (v1 + x1) then (
    mm_rz ((0 : Int32)) s
  ) else (
    mm_rz ((1 : Int32)) s
  )
set_option maxRecDepth 100000 in
set_option maxHeartbeats 4000000 in
theorem c_B_fits {l : Launch} {K : KK} (i0 : Nat) (x1 : Int32) (h0 : i0 < 24) (s : Mem) (o : Oc) (q : Mem) (h : f_B_fits i0 x1 s = some (o, q)) : Ct l K y_B_fits b_B_fits 2 (some .boolean) 0 0 [.ref (aa K 16 i0), .int x1] s o q := by
  refine Ct_of (own := "VillageMail$Box") (L := [(0, _), (1, _)]) (by decide +kernel) rfl (Nat.le_of_ble_eq_true rfl) rfl (fun Γ G E => ?_)
  unfold f_B_fits at h
  refine ww_aload_n 0 G d_B_fits_0 rfl rfl ?_
  refine ww_getf G fs_B_19 h0 d_B_fits_1 h (fun v1 h => ?_)
  refine ww_iload_n 1 G d_B_fits_4 rfl rfl ?_
  refine ww_iadd G d_B_fits_5 ?_
  refine ww_aload_n 0 G d_B_fits_6 rfl rfl ?_
  refine ww_getf G fs_B_15 h0 d_B_fits_7 h (fun v7 h => ?_)
  refine ww_icmpgt (tgt := 17) G d_B_fits_10 (by decide) h (fun h => ?_) (fun h => ?_)
  · skip
    refine ww_iconst (v := (0 : Int32)) G d_B_fits_17 ic_0 ?_
    exact ww_zret G E d_B_fits_18 h
  · skip
    refine ww_iconst (v := (1 : Int32)) G d_B_fits_13 ic_1 ?_
    refine ww_goto (tgt := 18) G d_B_fits_14 (by decide) ?_
    exact ww_zret G E d_B_fits_18 h
def f_B_put (i0 : Nat) (x1 : Int32) (x2 : Int32) (s : Mem) : RR :=
  mm_gf s 16 i0 1 fun v5 =>
  mm_st s 17 i0 16 v5 x1 fun s9 =>
  mm_gf s9 16 i0 1 fun v12 =>
  mm_pf s9 16 i0 1 (v12 + ((1 : Int32))) fun s17 =>
  mm_gf s17 16 i0 2 fun v22 =>
  mm_pf s17 16 i0 2 (v22 + x2) fun s27 =>
  mm_rv s27
set_option maxRecDepth 100000 in
set_option maxHeartbeats 4000000 in
theorem c_B_put {l : Launch} {K : KK} (i0 : Nat) (x1 : Int32) (x2 : Int32) (h0 : i0 < 24) (s : Mem) (o : Oc) (q : Mem) (h : f_B_put i0 x1 x2 s = some (o, q)) : Ct l K y_B_put b_B_put 3 none 0 0 [.ref (aa K 16 i0), .int x1, .int x2] s o q := by
  refine Ct_of (own := "VillageMail$Box") (L := [(0, _), (1, _), (2, _)]) (by decide +kernel) rfl (Nat.le_of_ble_eq_true rfl) rfl (fun Γ G E => ?_)
  unfold f_B_put at h
  refine ww_aload_n 0 G d_B_put_0 rfl rfl ?_
  refine ww_getr G fs_B_9 h0 d_B_put_1 ?_
  refine ww_aload_n 0 G d_B_put_4 rfl rfl ?_
  refine ww_getf G fs_B_22 h0 d_B_put_5 h (fun v5 h => ?_)
  refine ww_iload_n 1 G d_B_put_8 rfl rfl ?_
  refine ww_iastore G ar_17 h0 d_B_put_9 h (fun s9 h => ?_)
  refine ww_aload_n 0 G d_B_put_10 rfl rfl ?_
  refine ww_dup G d_B_put_11 rfl ?_
  refine ww_getf G fs_B_22 h0 d_B_put_12 h (fun v12 h => ?_)
  refine ww_iconst (v := (1 : Int32)) G d_B_put_15 ic_1 ?_
  refine ww_iadd G d_B_put_16 ?_
  refine ww_putf G fs_B_22 h0 d_B_put_17 h (fun s17 h => ?_)
  refine ww_aload_n 0 G d_B_put_20 rfl rfl ?_
  refine ww_dup G d_B_put_21 rfl ?_
  refine ww_getf G fs_B_19 h0 d_B_put_22 h (fun v22 h => ?_)
  refine ww_iload_n 2 G d_B_put_25 rfl rfl ?_
  refine ww_iadd G d_B_put_26 ?_
  refine ww_putf G fs_B_19 h0 d_B_put_27 h (fun s27 h => ?_)
  exact ww_vret G E d_B_put_30 h
def lp_B_takeOut_22 (i0 : Nat) (k : Mem → RR) : Nat → Int32 → Mem → RR
  | 0, _, _ => none
  | n + 1, x3, s =>
    mm_gf s 16 i0 1 fun v24 =>
    if v24 ≤ x3 then (
      k s
    ) else (
      mm_ld s 17 i0 16 (x3 + ((1 : Int32))) fun v42 =>
      mm_st s 17 i0 16 x3 v42 fun s43 =>
      lp_B_takeOut_22 i0 k n (x3 + (1 : Int32)) s43
    )
set_option maxRecDepth 100000 in
set_option maxHeartbeats 4000000 in
theorem lp_B_takeOut_22_ok {K : KK} {Γ : Cx} {o : Oc} {q : Mem} (i0 : Nat) (h0 : i0 < 24) (k : Mem → RR) (G : Good K Γ b_B_takeOut "VillageMail$Box" 4 0 0) (E : Ends K Γ none o q)
    (Kx : ∀  (s : Mem), k s = some (o, q) → WW K Γ 0 s 50 [] []) :
    ∀ (n : Nat) (x3 : Int32) (s : Mem), lp_B_takeOut_22 i0 k n x3 s = some (o, q) → WW K Γ 0 s 22 [(0, .ref (aa K 16 i0)), (3, .int x3)] [] := by
  intro n
  induction n with
  | zero => intro _ _ h; exact nomatch h
  | succ n ih =>
    intro x3 s h
    unfold lp_B_takeOut_22 at h
    refine ww_iload_n 1 G d_B_takeOut_22 rfl rfl ?_
    refine ww_aload_n 0 G d_B_takeOut_23 rfl rfl ?_
    refine ww_getf G fs_B_22 h0 d_B_takeOut_24 h (fun v24 h => ?_)
    refine ww_icmpge (tgt := 50) G d_B_takeOut_27 (by decide) h (fun h => ?_) (fun h => ?_)
    · skip
      refine ww_sub [] rfl ?_
      exact Kx  _ h
    · skip
      refine ww_aload_n 0 G d_B_takeOut_30 rfl rfl ?_
      refine ww_getr G fs_B_9 h0 d_B_takeOut_31 ?_
      refine ww_iload_n 1 G d_B_takeOut_34 rfl rfl ?_
      refine ww_aload_n 0 G d_B_takeOut_35 rfl rfl ?_
      refine ww_getr G fs_B_9 h0 d_B_takeOut_36 ?_
      refine ww_iload_n 1 G d_B_takeOut_39 rfl rfl ?_
      refine ww_iconst (v := (1 : Int32)) G d_B_takeOut_40 ic_1 ?_
      refine ww_iadd G d_B_takeOut_41 ?_
      refine ww_iaload G ar_17 h0 d_B_takeOut_42 h (fun v42 h => ?_)
      refine ww_iastore G ar_17 h0 d_B_takeOut_43 h (fun s43 h => ?_)
      refine ww_iinc 1 (L' := [(3, _), (0, _)]) G d_B_takeOut_44 rfl ic_1 (by decide) rfl ?_
      refine ww_goto (tgt := 22) G d_B_takeOut_47 (by decide) ?_
      refine ww_sub [1, 0] rfl ?_
      exact ih _ _ h
def f_B_takeOut (i0 : Nat) (x1 : Int32) (x2 : Int32) (s : Mem) : RR :=
  mm_gf s 16 i0 1 fun v2 =>
  mm_pf s 16 i0 1 (v2 - ((1 : Int32))) fun s7 =>
  mm_gf s7 16 i0 2 fun v12 =>
  mm_pf s7 16 i0 2 (v12 - x2) fun s17 =>
  mm_lp (fun kk => lp_B_takeOut_22 i0 kk FU x1 s17) fun s22 =>
  mm_rv s22
set_option maxRecDepth 100000 in
set_option maxHeartbeats 4000000 in
theorem c_B_takeOut {l : Launch} {K : KK} (i0 : Nat) (x1 : Int32) (x2 : Int32) (h0 : i0 < 24) (s : Mem) (o : Oc) (q : Mem) (h : f_B_takeOut i0 x1 x2 s = some (o, q)) : Ct l K y_B_takeOut b_B_takeOut 4 none 0 0 [.ref (aa K 16 i0), .int x1, .int x2] s o q := by
  refine Ct_of (own := "VillageMail$Box") (L := [(0, _), (1, _), (2, _)]) (by decide +kernel) rfl (Nat.le_of_ble_eq_true rfl) rfl (fun Γ G E => ?_)
  unfold f_B_takeOut at h
  refine ww_aload_n 0 G d_B_takeOut_0 rfl rfl ?_
  refine ww_dup G d_B_takeOut_1 rfl ?_
  refine ww_getf G fs_B_22 h0 d_B_takeOut_2 h (fun v2 h => ?_)
  refine ww_iconst (v := (1 : Int32)) G d_B_takeOut_5 ic_1 ?_
  refine ww_isub G d_B_takeOut_6 ?_
  refine ww_putf G fs_B_22 h0 d_B_takeOut_7 h (fun s7 h => ?_)
  refine ww_aload_n 0 G d_B_takeOut_10 rfl rfl ?_
  refine ww_dup G d_B_takeOut_11 rfl ?_
  refine ww_getf G fs_B_19 h0 d_B_takeOut_12 h (fun v12 h => ?_)
  refine ww_iload_n 2 G d_B_takeOut_15 rfl rfl ?_
  refine ww_isub G d_B_takeOut_16 ?_
  refine ww_putf G fs_B_19 h0 d_B_takeOut_17 h (fun s17 h => ?_)
  refine ww_iload_n 1 G d_B_takeOut_20 rfl rfl ?_
  refine ww_istore_n (L' := [(3, _), (0, _), (1, _), (2, _)]) G d_B_takeOut_21 rfl (by decide) rfl ?_
  refine ww_sub [1, 0] rfl ?_
  refine lp_B_takeOut_22_ok i0 h0 _ G E (fun s22 h => ?_) FU _ _ h
  exact ww_vret G E d_B_takeOut_50 h
def f_C_toggle (i0 : Nat) (x1 : Int32) (x2 : Int32) (s : Mem) : RR :=
  mm_ld s 15 i0 2 x1 fun v6 =>
  mm_st s 15 i0 2 x1 (v6 ^^^ (mm_ishl ((1 : Int32)) x2)) fun s11 =>
  mm_ld s11 15 i0 2 x1 fun v17 =>
  if ¬ ((mm_ishr v17 x2) &&& ((1 : Int32))) = ((1 : Int32)) then (
    mm_rz ((0 : Int32)) s11
  ) else (
    mm_rz ((1 : Int32)) s11
  )
set_option maxRecDepth 100000 in
set_option maxHeartbeats 4000000 in
theorem c_C_toggle {l : Launch} {K : KK} (i0 : Nat) (x1 : Int32) (x2 : Int32) (h0 : i0 < 8) (s : Mem) (o : Oc) (q : Mem) (h : f_C_toggle i0 x1 x2 s = some (o, q)) : Ct l K y_C_toggle b_C_toggle 3 (some .boolean) 0 0 [.ref (aa K 13 i0), .int x1, .int x2] s o q := by
  refine Ct_of (own := "VillageMail$Boxes") (L := [(0, _), (1, _), (2, _)]) (by decide +kernel) rfl (Nat.le_of_ble_eq_true rfl) rfl (fun Γ G E => ?_)
  unfold f_C_toggle at h
  refine ww_aload_n 0 G d_C_toggle_0 rfl rfl ?_
  refine ww_getr G fs_C_18 h0 d_C_toggle_1 ?_
  refine ww_iload_n 1 G d_C_toggle_4 rfl rfl ?_
  refine ww_dup2 G d_C_toggle_5 rfl rfl ?_
  refine ww_iaload G ar_15 h0 d_C_toggle_6 h (fun v6 h => ?_)
  refine ww_iconst (v := (1 : Int32)) G d_C_toggle_7 ic_1 ?_
  refine ww_iload_n 2 G d_C_toggle_8 rfl rfl ?_
  refine ww_ishl G d_C_toggle_9 ?_
  refine ww_ixor G d_C_toggle_10 ?_
  refine ww_iastore G ar_15 h0 d_C_toggle_11 h (fun s11 h => ?_)
  refine ww_aload_n 0 G d_C_toggle_12 rfl rfl ?_
  refine ww_getr G fs_C_18 h0 d_C_toggle_13 ?_
  refine ww_iload_n 1 G d_C_toggle_16 rfl rfl ?_
  refine ww_iaload G ar_15 h0 d_C_toggle_17 h (fun v17 h => ?_)
  refine ww_iload_n 2 G d_C_toggle_18 rfl rfl ?_
  refine ww_ishr G d_C_toggle_19 ?_
  refine ww_iconst (v := (1 : Int32)) G d_C_toggle_20 ic_1 ?_
  refine ww_iand G d_C_toggle_21 ?_
  refine ww_iconst (v := (1 : Int32)) G d_C_toggle_22 ic_1 ?_
  refine ww_icmpne (tgt := 30) G d_C_toggle_23 (by decide) h (fun h => ?_) (fun h => ?_)
  · skip
    refine ww_iconst (v := (0 : Int32)) G d_C_toggle_30 ic_0 ?_
    exact ww_zret G E d_C_toggle_31 h
  · skip
    refine ww_iconst (v := (1 : Int32)) G d_C_toggle_26 ic_1 ?_
    refine ww_goto (tgt := 31) G d_C_toggle_27 (by decide) ?_
    exact ww_zret G E d_C_toggle_31 h
def f_C_addressedBy (i0 : Nat) (x1 : Int32) (s : Mem) : RR :=
  if ((3 : Int32)) ≤ x1 then (
    mm_ld s 15 i0 2 (x1 - ((3 : Int32))) fun v18 =>
    mm_ri v18 s
  ) else (
    mm_ri (mm_ishl ((1 : Int32)) x1) s
  )
set_option maxRecDepth 100000 in
set_option maxHeartbeats 4000000 in
theorem c_C_addressedBy {l : Launch} {K : KK} (i0 : Nat) (x1 : Int32) (h0 : i0 < 8) (s : Mem) (o : Oc) (q : Mem) (h : f_C_addressedBy i0 x1 s = some (o, q)) : Ct l K y_C_addressedBy b_C_addressedBy 2 (some .int) 0 0 [.ref (aa K 13 i0), .int x1] s o q := by
  refine Ct_of (own := "VillageMail$Boxes") (L := [(0, _), (1, _)]) (by decide +kernel) rfl (Nat.le_of_ble_eq_true rfl) rfl (fun Γ G E => ?_)
  unfold f_C_addressedBy at h
  refine ww_iload_n 1 G d_C_addressedBy_0 rfl rfl ?_
  refine ww_iconst (v := (3 : Int32)) G d_C_addressedBy_1 ic_3 ?_
  refine ww_icmpge (tgt := 11) G d_C_addressedBy_2 (by decide) h (fun h => ?_) (fun h => ?_)
  · skip
    refine ww_aload_n 0 G d_C_addressedBy_11 rfl rfl ?_
    refine ww_getr G fs_C_18 h0 d_C_addressedBy_12 ?_
    refine ww_iload_n 1 G d_C_addressedBy_15 rfl rfl ?_
    refine ww_iconst (v := (3 : Int32)) G d_C_addressedBy_16 ic_3 ?_
    refine ww_isub G d_C_addressedBy_17 ?_
    refine ww_iaload G ar_15 h0 d_C_addressedBy_18 h (fun v18 h => ?_)
    exact ww_iret G E d_C_addressedBy_19 h
  · skip
    refine ww_iconst (v := (1 : Int32)) G d_C_addressedBy_5 ic_1 ?_
    refine ww_iload_n 1 G d_C_addressedBy_6 rfl rfl ?_
    refine ww_ishl G d_C_addressedBy_7 ?_
    refine ww_goto (tgt := 19) G d_C_addressedBy_8 (by decide) ?_
    exact ww_iret G E d_C_addressedBy_19 h
def lp_C_allFit_2 (i0 : Nat) (x1 : Int32) (x2 : Int32) (k : Mem → RR) : Nat → Int32 → Mem → RR
  | 0, _, _ => none
  | n + 1, x3, s =>
    if ((3 : Int32)) ≤ x3 then (
      k s
    ) else (
      if ¬ ((mm_ishr x1 x3) &&& ((1 : Int32))) = ((1 : Int32)) then (
        lp_C_allFit_2 i0 x1 x2 k n (x3 + (1 : Int32)) s
      ) else (
        mm_al 3 x3 fun j21 =>
        mm_cI (f_B_fits ((3 * i0 + j21)) x2 s) fun v23 s23 =>
        if ¬ v23 = 0 then (
          lp_C_allFit_2 i0 x1 x2 k n (x3 + (1 : Int32)) s23
        ) else (
          mm_rz ((0 : Int32)) s23
        )
      )
    )
set_option maxRecDepth 100000 in
set_option maxHeartbeats 4000000 in
theorem lp_C_allFit_2_ok {K : KK} {Γ : Cx} {o : Oc} {q : Mem} (i0 : Nat) (x1 : Int32) (x2 : Int32) (h0 : i0 < 8) (k : Mem → RR) (G : Good K Γ b_C_allFit "VillageMail$Boxes" 4 1 21) (E : Ends K Γ (some .boolean) o q)
    (Kx : ∀  (s : Mem), k s = some (o, q) → WW K Γ 0 s 37 [] []) :
    ∀ (n : Nat) (x3 : Int32) (s : Mem), lp_C_allFit_2 i0 x1 x2 k n x3 s = some (o, q) → WW K Γ 0 s 2 [(0, .ref (aa K 13 i0)), (1, .int x1), (2, .int x2), (3, .int x3)] [] := by
  intro n
  induction n with
  | zero => intro _ _ h; exact nomatch h
  | succ n ih =>
    intro x3 s h
    unfold lp_C_allFit_2 at h
    refine ww_iload_n 3 G d_C_allFit_2 rfl rfl ?_
    refine ww_iconst (v := (3 : Int32)) G d_C_allFit_3 ic_3 ?_
    refine ww_icmpge (tgt := 37) G d_C_allFit_4 (by decide) h (fun h => ?_) (fun h => ?_)
    · skip
      refine ww_sub [] rfl ?_
      exact Kx  _ h
    · skip
      refine ww_iload_n 1 G d_C_allFit_7 rfl rfl ?_
      refine ww_iload_n 3 G d_C_allFit_8 rfl rfl ?_
      refine ww_ishr G d_C_allFit_9 ?_
      refine ww_iconst (v := (1 : Int32)) G d_C_allFit_10 ic_1 ?_
      refine ww_iand G d_C_allFit_11 ?_
      refine ww_iconst (v := (1 : Int32)) G d_C_allFit_12 ic_1 ?_
      refine ww_icmpne (tgt := 31) G d_C_allFit_13 (by decide) h (fun h => ?_) (fun h => ?_)
      · skip
        refine ww_iinc 3 (L' := [(3, _), (0, _), (1, _), (2, _)]) G d_C_allFit_31 rfl ic_1 (by decide) rfl ?_
        refine ww_goto (tgt := 2) G d_C_allFit_34 (by decide) ?_
        refine ww_sub [1, 2, 3, 0] rfl ?_
        exact ih _ _ h
      · skip
        refine ww_aload_n 0 G d_C_allFit_16 rfl rfl ?_
        refine ww_getr G fs_C_11 h0 d_C_allFit_17 ?_
        refine ww_iload_n 3 G d_C_allFit_20 rfl rfl ?_
        refine ww_aaload G ar_14 h0 d_C_allFit_21 h (fun j21 hj21 h => ?_)
        refine ww_iload_n 2 G d_C_allFit_22 rfl rfl ?_
        refine ww_cvI (As := [_]) G E cs_C_34 (show (3 * i0 + j21) < 24 by omega) (fun o q h => c_B_fits ((3 * i0 + j21)) x2 (show (3 * i0 + j21) < 24 by omega) _ _ _ h) rfl rfl (Nat.le_of_ble_eq_true rfl) d_C_allFit_23 (by decide) h (fun v23 s23 h => ?_)
        refine ww_ifne (tgt := 31) G d_C_allFit_26 (by decide) h (fun h => ?_) (fun h => ?_)
        · skip
          refine ww_iinc 3 (L' := [(3, _), (0, _), (1, _), (2, _)]) G d_C_allFit_31 rfl ic_1 (by decide) rfl ?_
          refine ww_goto (tgt := 2) G d_C_allFit_34 (by decide) ?_
          refine ww_sub [1, 2, 3, 0] rfl ?_
          exact ih _ _ h
        · skip
          refine ww_iconst (v := (0 : Int32)) G d_C_allFit_29 ic_0 ?_
          exact ww_zret G E d_C_allFit_30 h
def f_C_allFit (i0 : Nat) (x1 : Int32) (x2 : Int32) (s : Mem) : RR :=
  mm_lp (fun kk => lp_C_allFit_2 i0 x1 x2 kk FU ((0 : Int32)) s) fun s2 =>
  mm_rz ((1 : Int32)) s2
set_option maxRecDepth 100000 in
set_option maxHeartbeats 4000000 in
theorem c_C_allFit {l : Launch} {K : KK} (i0 : Nat) (x1 : Int32) (x2 : Int32) (h0 : i0 < 8) (s : Mem) (o : Oc) (q : Mem) (h : f_C_allFit i0 x1 x2 s = some (o, q)) : Ct l K y_C_allFit b_C_allFit 4 (some .boolean) 1 21 [.ref (aa K 13 i0), .int x1, .int x2] s o q := by
  refine Ct_of (own := "VillageMail$Boxes") (L := [(0, _), (1, _), (2, _)]) (by decide +kernel) rfl (Nat.le_of_ble_eq_true rfl) rfl (fun Γ G E => ?_)
  unfold f_C_allFit at h
  refine ww_iconst (v := (0 : Int32)) G d_C_allFit_0 ic_0 ?_
  refine ww_istore_n (L' := [(3, _), (0, _), (1, _), (2, _)]) G d_C_allFit_1 rfl (by decide) rfl ?_
  refine ww_sub [1, 2, 3, 0] rfl ?_
  refine lp_C_allFit_2_ok i0 x1 x2 h0 _ G E (fun s2 h => ?_) FU _ _ h
  refine ww_iconst (v := (1 : Int32)) G d_C_allFit_37 ic_1 ?_
  exact ww_zret G E d_C_allFit_38 h
def lp_C_putInto_27 (i0 : Nat) (x2 : Int32) (x3 : Int32) (x4 : Int32) (k : Mem → RR) : Nat → Int32 → Mem → RR
  | 0, _, _ => none
  | n + 1, x5, s =>
    if ((3 : Int32)) ≤ x5 then (
      k s
    ) else (
      if ¬ ((mm_ishr x4 x5) &&& ((1 : Int32))) = ((1 : Int32)) then (
        lp_C_putInto_27 i0 x2 x3 x4 k n (x5 + (1 : Int32)) s
      ) else (
        mm_al 3 x5 fun j50 =>
        mm_cV (f_B_put ((3 * i0 + j50)) x2 x3 s) fun s53 =>
        lp_C_putInto_27 i0 x2 x3 x4 k n (x5 + (1 : Int32)) s53
      )
    )
set_option maxRecDepth 100000 in
set_option maxHeartbeats 4000000 in
theorem lp_C_putInto_27_ok {K : KK} {Γ : Cx} {o : Oc} {q : Mem} (i0 : Nat) (x2 : Int32) (x3 : Int32) (x4 : Int32) (h0 : i0 < 8) (k : Mem → RR) (G : Good K Γ b_C_putInto "VillageMail$Boxes" 6 2 44) (E : Ends K Γ (some .boolean) o q)
    (Kx : ∀  (s : Mem), k s = some (o, q) → WW K Γ 0 s 62 [] []) :
    ∀ (n : Nat) (x5 : Int32) (s : Mem), lp_C_putInto_27 i0 x2 x3 x4 k n x5 s = some (o, q) → WW K Γ 0 s 27 [(0, .ref (aa K 13 i0)), (2, .int x2), (3, .int x3), (4, .int x4), (5, .int x5)] [] := by
  intro n
  induction n with
  | zero => intro _ _ h; exact nomatch h
  | succ n ih =>
    intro x5 s h
    unfold lp_C_putInto_27 at h
    refine ww_iload 4 G d_C_putInto_27 rfl ?_
    refine ww_iconst (v := (3 : Int32)) G d_C_putInto_29 ic_3 ?_
    refine ww_icmpge (tgt := 62) G d_C_putInto_30 (by decide) h (fun h => ?_) (fun h => ?_)
    · skip
      refine ww_sub [] rfl ?_
      exact Kx  _ h
    · skip
      refine ww_iload 3 G d_C_putInto_33 rfl ?_
      refine ww_iload 4 G d_C_putInto_35 rfl ?_
      refine ww_ishr G d_C_putInto_37 ?_
      refine ww_iconst (v := (1 : Int32)) G d_C_putInto_38 ic_1 ?_
      refine ww_iand G d_C_putInto_39 ?_
      refine ww_iconst (v := (1 : Int32)) G d_C_putInto_40 ic_1 ?_
      refine ww_icmpne (tgt := 56) G d_C_putInto_41 (by decide) h (fun h => ?_) (fun h => ?_)
      · skip
        refine ww_iinc 4 (L' := [(5, _), (0, _), (2, _), (3, _), (4, _)]) G d_C_putInto_56 rfl ic_1 (by decide) rfl ?_
        refine ww_goto (tgt := 27) G d_C_putInto_59 (by decide) ?_
        refine ww_sub [1, 2, 3, 4, 0] rfl ?_
        exact ih _ _ h
      · skip
        refine ww_aload_n 0 G d_C_putInto_44 rfl rfl ?_
        refine ww_getr G fs_C_11 h0 d_C_putInto_45 ?_
        refine ww_iload 4 G d_C_putInto_48 rfl ?_
        refine ww_aaload G ar_14 h0 d_C_putInto_50 h (fun j50 hj50 h => ?_)
        refine ww_iload_n 1 G d_C_putInto_51 rfl rfl ?_
        refine ww_iload_n 2 G d_C_putInto_52 rfl rfl ?_
        refine ww_cvV (As := [_, _]) G E cs_C_30 (show (3 * i0 + j50) < 24 by omega) (fun o q h => c_B_put ((3 * i0 + j50)) x2 x3 (show (3 * i0 + j50) < 24 by omega) _ _ _ h) rfl rfl (Nat.le_of_ble_eq_true rfl) d_C_putInto_53 (by decide) h (fun s53 h => ?_)
        refine ww_iinc 4 (L' := [(5, _), (0, _), (2, _), (3, _), (4, _)]) G d_C_putInto_56 rfl ic_1 (by decide) rfl ?_
        refine ww_goto (tgt := 27) G d_C_putInto_59 (by decide) ?_
        refine ww_sub [1, 2, 3, 4, 0] rfl ?_
        exact ih _ _ h
def f_C_putInto (i0 : Nat) (x1 : Int32) (x2 : Int32) (x3 : Int32) (s : Mem) : RR :=
  mm_cI (f_C_addressedBy i0 x1 s) fun v2 s2 =>
  if v2 = 0 then (
    mm_rz ((0 : Int32)) s2
  ) else (
    mm_cI (f_C_allFit i0 v2 x3 s2) fun v16 s16 =>
    if ¬ v16 = 0 then (
      mm_lp (fun kk => lp_C_putInto_27 i0 x2 x3 v2 kk FU ((0 : Int32)) s16) fun s27 =>
      mm_rz ((1 : Int32)) s27
    ) else (
      mm_rz ((0 : Int32)) s16
    )
  )
set_option maxRecDepth 100000 in
set_option maxHeartbeats 4000000 in
theorem c_C_putInto {l : Launch} {K : KK} (i0 : Nat) (x1 : Int32) (x2 : Int32) (x3 : Int32) (h0 : i0 < 8) (s : Mem) (o : Oc) (q : Mem) (h : f_C_putInto i0 x1 x2 x3 s = some (o, q)) : Ct l K y_C_putInto b_C_putInto 6 (some .boolean) 2 44 [.ref (aa K 13 i0), .int x1, .int x2, .int x3] s o q := by
  refine Ct_of (own := "VillageMail$Boxes") (L := [(0, _), (1, _), (2, _), (3, _)]) (by decide +kernel) rfl (Nat.le_of_ble_eq_true rfl) rfl (fun Γ G E => ?_)
  unfold f_C_putInto at h
  refine ww_aload_n 0 G d_C_putInto_0 rfl rfl ?_
  refine ww_iload_n 1 G d_C_putInto_1 rfl rfl ?_
  refine ww_cvI (As := [_]) G E cs_C_22 h0 (fun o q h => c_C_addressedBy i0 x1 h0 _ _ _ h) rfl rfl (Nat.le_of_ble_eq_true rfl) d_C_putInto_2 (by decide) h (fun v2 s2 h => ?_)
  refine ww_istore (L' := [(4, _), (0, _), (1, _), (2, _), (3, _)]) G d_C_putInto_5 (by decide) rfl ?_
  refine ww_iload 0 G d_C_putInto_7 rfl ?_
  refine ww_ifeq (tgt := 22) G d_C_putInto_9 (by decide) h (fun h => ?_) (fun h => ?_)
  · skip
    refine ww_iconst (v := (0 : Int32)) G d_C_putInto_22 ic_0 ?_
    exact ww_zret G E d_C_putInto_23 h
  · skip
    refine ww_aload_n 1 G d_C_putInto_12 rfl rfl ?_
    refine ww_iload 0 G d_C_putInto_13 rfl ?_
    refine ww_iload_n 4 G d_C_putInto_15 rfl rfl ?_
    refine ww_cvI (As := [_, _]) G E cs_C_26 h0 (fun o q h => c_C_allFit i0 v2 x3 h0 _ _ _ h) rfl rfl (Nat.le_of_ble_eq_true rfl) d_C_putInto_16 (by decide) h (fun v16 s16 h => ?_)
    refine ww_ifne (tgt := 24) G d_C_putInto_19 (by decide) h (fun h => ?_) (fun h => ?_)
    · skip
      refine ww_iconst (v := (0 : Int32)) G d_C_putInto_24 ic_0 ?_
      refine ww_istore (L' := [(5, _), (4, _), (0, _), (1, _), (2, _), (3, _)]) G d_C_putInto_25 (by decide) rfl ?_
      refine ww_sub [2, 4, 5, 1, 0] rfl ?_
      refine lp_C_putInto_27_ok i0 x2 x3 v2 h0 _ G E (fun s27 h => ?_) FU _ _ h
      refine ww_iconst (v := (1 : Int32)) G d_C_putInto_62 ic_1 ?_
      exact ww_zret G E d_C_putInto_63 h
    · skip
      refine ww_iconst (v := (0 : Int32)) G d_C_putInto_22 ic_0 ?_
      exact ww_zret G E d_C_putInto_23 h
def f_O_add (i0 : Nat) (x1 : Int32) (s : Mem) : RR :=
  mm_gf s 26 i0 1 fun v5 =>
  mm_st s 27 i0 24 v5 x1 fun s9 =>
  mm_gf s9 26 i0 1 fun v12 =>
  mm_pf s9 26 i0 1 (v12 + ((1 : Int32))) fun s17 =>
  mm_rv s17
set_option maxRecDepth 100000 in
set_option maxHeartbeats 4000000 in
theorem c_O_add {l : Launch} {K : KK} (i0 : Nat) (x1 : Int32) (h0 : i0 < 2) (s : Mem) (o : Oc) (q : Mem) (h : f_O_add i0 x1 s = some (o, q)) : Ct l K y_O_add b_O_add 2 none 0 0 [.ref (aa K 26 i0), .int x1] s o q := by
  refine Ct_of (own := "VillageMail$Offers") (L := [(0, _), (1, _)]) (by decide +kernel) rfl (Nat.le_of_ble_eq_true rfl) rfl (fun Γ G E => ?_)
  unfold f_O_add at h
  refine ww_aload_n 0 G d_O_add_0 rfl rfl ?_
  refine ww_getr G fs_O_9 h0 d_O_add_1 ?_
  refine ww_aload_n 0 G d_O_add_4 rfl rfl ?_
  refine ww_getf G fs_O_15 h0 d_O_add_5 h (fun v5 h => ?_)
  refine ww_iload_n 1 G d_O_add_8 rfl rfl ?_
  refine ww_iastore G ar_27 h0 d_O_add_9 h (fun s9 h => ?_)
  refine ww_aload_n 0 G d_O_add_10 rfl rfl ?_
  refine ww_dup G d_O_add_11 rfl ?_
  refine ww_getf G fs_O_15 h0 d_O_add_12 h (fun v12 h => ?_)
  refine ww_iconst (v := (1 : Int32)) G d_O_add_15 ic_1 ?_
  refine ww_iadd G d_O_add_16 ?_
  refine ww_putf G fs_O_15 h0 d_O_add_17 h (fun s17 h => ?_)
  exact ww_vret G E d_O_add_20 h
def lp_T_find_2 (i0 : Nat) (x1 : Int32) (x2 : Int32) (k : Mem → RR) : Nat → Int32 → Mem → RR
  | 0, _, _ => none
  | n + 1, x3, s =>
    mm_gf s 1 i0 3 fun v4 =>
    if v4 ≤ x3 then (
      k s
    ) else (
      mm_ld s 2 i0 24 x3 fun v15 =>
      if ¬ v15 = x1 then (
        lp_T_find_2 i0 x1 x2 k n (x3 + (1 : Int32)) s
      ) else (
        mm_ld s 4 i0 24 x3 fun v25 =>
        if ¬ v25 = x2 then (
          lp_T_find_2 i0 x1 x2 k n (x3 + (1 : Int32)) s
        ) else (
          mm_ri x3 s
        )
      )
    )
set_option maxRecDepth 100000 in
set_option maxHeartbeats 4000000 in
theorem lp_T_find_2_ok {K : KK} {Γ : Cx} {o : Oc} {q : Mem} (i0 : Nat) (x1 : Int32) (x2 : Int32) (h0 : i0 < 8) (k : Mem → RR) (G : Good K Γ b_T_find "VillageMail$Timetable" 4 0 0) (E : Ends K Γ (some .int) o q)
    (Kx : ∀  (s : Mem), k s = some (o, q) → WW K Γ 0 s 38 [] []) :
    ∀ (n : Nat) (x3 : Int32) (s : Mem), lp_T_find_2 i0 x1 x2 k n x3 s = some (o, q) → WW K Γ 0 s 2 [(0, .ref (aa K 1 i0)), (1, .int x1), (2, .int x2), (3, .int x3)] [] := by
  intro n
  induction n with
  | zero => intro _ _ h; exact nomatch h
  | succ n ih =>
    intro x3 s h
    unfold lp_T_find_2 at h
    refine ww_iload_n 3 G d_T_find_2 rfl rfl ?_
    refine ww_aload_n 0 G d_T_find_3 rfl rfl ?_
    refine ww_getf G fs_T_21 h0 d_T_find_4 h (fun v4 h => ?_)
    refine ww_icmpge (tgt := 38) G d_T_find_7 (by decide) h (fun h => ?_) (fun h => ?_)
    · skip
      refine ww_sub [] rfl ?_
      exact Kx  _ h
    · skip
      refine ww_aload_n 0 G d_T_find_10 rfl rfl ?_
      refine ww_getr G fs_T_9 h0 d_T_find_11 ?_
      refine ww_iload_n 3 G d_T_find_14 rfl rfl ?_
      refine ww_iaload G ar_2 h0 d_T_find_15 h (fun v15 h => ?_)
      refine ww_iload_n 1 G d_T_find_16 rfl rfl ?_
      refine ww_icmpne (tgt := 32) G d_T_find_17 (by decide) h (fun h => ?_) (fun h => ?_)
      · skip
        refine ww_iinc 3 (L' := [(3, _), (0, _), (1, _), (2, _)]) G d_T_find_32 rfl ic_1 (by decide) rfl ?_
        refine ww_goto (tgt := 2) G d_T_find_35 (by decide) ?_
        refine ww_sub [1, 2, 3, 0] rfl ?_
        exact ih _ _ h
      · skip
        refine ww_aload_n 0 G d_T_find_20 rfl rfl ?_
        refine ww_getr G fs_T_18 h0 d_T_find_21 ?_
        refine ww_iload_n 3 G d_T_find_24 rfl rfl ?_
        refine ww_iaload G ar_4 h0 d_T_find_25 h (fun v25 h => ?_)
        refine ww_iload_n 2 G d_T_find_26 rfl rfl ?_
        refine ww_icmpne (tgt := 32) G d_T_find_27 (by decide) h (fun h => ?_) (fun h => ?_)
        · skip
          refine ww_iinc 3 (L' := [(3, _), (0, _), (1, _), (2, _)]) G d_T_find_32 rfl ic_1 (by decide) rfl ?_
          refine ww_goto (tgt := 2) G d_T_find_35 (by decide) ?_
          refine ww_sub [1, 2, 3, 0] rfl ?_
          exact ih _ _ h
        · skip
          refine ww_iload_n 3 G d_T_find_30 rfl rfl ?_
          exact ww_iret G E d_T_find_31 h
def f_T_find (i0 : Nat) (x1 : Int32) (x2 : Int32) (s : Mem) : RR :=
  mm_lp (fun kk => lp_T_find_2 i0 x1 x2 kk FU ((0 : Int32)) s) fun s2 =>
  mm_ri ((-1 : Int32)) s2
set_option maxRecDepth 100000 in
set_option maxHeartbeats 4000000 in
theorem c_T_find {l : Launch} {K : KK} (i0 : Nat) (x1 : Int32) (x2 : Int32) (h0 : i0 < 8) (s : Mem) (o : Oc) (q : Mem) (h : f_T_find i0 x1 x2 s = some (o, q)) : Ct l K y_T_find b_T_find 4 (some .int) 0 0 [.ref (aa K 1 i0), .int x1, .int x2] s o q := by
  refine Ct_of (own := "VillageMail$Timetable") (L := [(0, _), (1, _), (2, _)]) (by decide +kernel) rfl (Nat.le_of_ble_eq_true rfl) rfl (fun Γ G E => ?_)
  unfold f_T_find at h
  refine ww_iconst (v := (0 : Int32)) G d_T_find_0 ic_0 ?_
  refine ww_istore_n (L' := [(3, _), (0, _), (1, _), (2, _)]) G d_T_find_1 rfl (by decide) rfl ?_
  refine ww_sub [1, 2, 3, 0] rfl ?_
  refine lp_T_find_2_ok i0 x1 x2 h0 _ G E (fun s2 h => ?_) FU _ _ h
  refine ww_iconst (v := (-1 : Int32)) G d_T_find_38 ic_m1 ?_
  exact ww_iret G E d_T_find_39 h
def f_T_set (i0 : Nat) (x1 : Int32) (x2 : Int32) (x3 : Int32) (x4 : Int32) (s : Mem) : RR :=
  mm_st s 2 i0 24 x1 x2 fun s6 =>
  mm_st s6 3 i0 24 x1 x3 fun s13 =>
  mm_st s13 4 i0 24 x1 x4 fun s21 =>
  mm_rv s21
set_option maxRecDepth 100000 in
set_option maxHeartbeats 4000000 in
theorem c_T_set {l : Launch} {K : KK} (i0 : Nat) (x1 : Int32) (x2 : Int32) (x3 : Int32) (x4 : Int32) (h0 : i0 < 8) (s : Mem) (o : Oc) (q : Mem) (h : f_T_set i0 x1 x2 x3 x4 s = some (o, q)) : Ct l K y_T_set b_T_set 5 none 0 0 [.ref (aa K 1 i0), .int x1, .int x2, .int x3, .int x4] s o q := by
  refine Ct_of (own := "VillageMail$Timetable") (L := [(0, _), (1, _), (2, _), (3, _), (4, _)]) (by decide +kernel) rfl (Nat.le_of_ble_eq_true rfl) rfl (fun Γ G E => ?_)
  unfold f_T_set at h
  refine ww_aload_n 0 G d_T_set_0 rfl rfl ?_
  refine ww_getr G fs_T_9 h0 d_T_set_1 ?_
  refine ww_iload_n 1 G d_T_set_4 rfl rfl ?_
  refine ww_iload_n 2 G d_T_set_5 rfl rfl ?_
  refine ww_iastore G ar_2 h0 d_T_set_6 h (fun s6 h => ?_)
  refine ww_aload_n 0 G d_T_set_7 rfl rfl ?_
  refine ww_getr G fs_T_15 h0 d_T_set_8 ?_
  refine ww_iload_n 1 G d_T_set_11 rfl rfl ?_
  refine ww_iload_n 3 G d_T_set_12 rfl rfl ?_
  refine ww_iastore G ar_3 h0 d_T_set_13 h (fun s13 h => ?_)
  refine ww_aload_n 0 G d_T_set_14 rfl rfl ?_
  refine ww_getr G fs_T_18 h0 d_T_set_15 ?_
  refine ww_iload_n 1 G d_T_set_18 rfl rfl ?_
  refine ww_iload 4 G d_T_set_19 rfl ?_
  refine ww_iastore G ar_4 h0 d_T_set_21 h (fun s21 h => ?_)
  exact ww_vret G E d_T_set_22 h
def lp_T_insert_6 (i0 : Nat) (x1 : Int32) (x2 : Int32) (x3 : Int32) (k : Int32 → Mem → RR) : Nat → Int32 → Mem → RR
  | 0, _, _ => none
  | n + 1, x4, s =>
    if x4 ≤ 0 then (
      k x4 s
    ) else (
      mm_ld s 4 i0 24 (x4 - ((1 : Int32))) fun v19 =>
      if v19 ≤ x3 then (
        k x4 s
      ) else (
        mm_ld s 2 i0 24 (x4 - ((1 : Int32))) fun v35 =>
        mm_ld s 3 i0 24 (x4 - ((1 : Int32))) fun v44 =>
        mm_ld s 4 i0 24 (x4 - ((1 : Int32))) fun v53 =>
        mm_cV (f_T_set i0 x4 v35 v44 v53 s) fun s54 =>
        lp_T_insert_6 i0 x1 x2 x3 k n (x4 + (-1 : Int32)) s54
      )
    )
set_option maxRecDepth 100000 in
set_option maxHeartbeats 4000000 in
theorem lp_T_insert_6_ok {K : KK} {Γ : Cx} {o : Oc} {q : Mem} (i0 : Nat) (x1 : Int32) (x2 : Int32) (x3 : Int32) (h0 : i0 < 8) (k : Int32 → Mem → RR) (G : Good K Γ b_T_insert "VillageMail$Timetable" 5 1 24) (E : Ends K Γ none o q)
    (Kx : ∀ (x4 : Int32) (s : Mem), k x4 s = some (o, q) → WW K Γ 0 s 63 [(0, .ref (aa K 1 i0)), (1, .int x1), (2, .int x2), (3, .int x3), (4, .int x4)] []) :
    ∀ (n : Nat) (x4 : Int32) (s : Mem), lp_T_insert_6 i0 x1 x2 x3 k n x4 s = some (o, q) → WW K Γ 0 s 6 [(0, .ref (aa K 1 i0)), (1, .int x1), (2, .int x2), (3, .int x3), (4, .int x4)] [] := by
  intro n
  induction n with
  | zero => intro _ _ h; exact nomatch h
  | succ n ih =>
    intro x4 s h
    unfold lp_T_insert_6 at h
    refine ww_iload 4 G d_T_insert_6 rfl ?_
    refine ww_ifle (tgt := 63) G d_T_insert_8 (by decide) h (fun h => ?_) (fun h => ?_)
    · skip
      exact Kx _ _ h
    · skip
      refine ww_aload_n 0 G d_T_insert_11 rfl rfl ?_
      refine ww_getr G fs_T_18 h0 d_T_insert_12 ?_
      refine ww_iload 4 G d_T_insert_15 rfl ?_
      refine ww_iconst (v := (1 : Int32)) G d_T_insert_17 ic_1 ?_
      refine ww_isub G d_T_insert_18 ?_
      refine ww_iaload G ar_4 h0 d_T_insert_19 h (fun v19 h => ?_)
      refine ww_iload_n 3 G d_T_insert_20 rfl rfl ?_
      refine ww_icmple (tgt := 63) G d_T_insert_21 (by decide) h (fun h => ?_) (fun h => ?_)
      · skip
        exact Kx _ _ h
      · skip
        refine ww_aload_n 0 G d_T_insert_24 rfl rfl ?_
        refine ww_iload 4 G d_T_insert_25 rfl ?_
        refine ww_aload_n 0 G d_T_insert_27 rfl rfl ?_
        refine ww_getr G fs_T_9 h0 d_T_insert_28 ?_
        refine ww_iload 4 G d_T_insert_31 rfl ?_
        refine ww_iconst (v := (1 : Int32)) G d_T_insert_33 ic_1 ?_
        refine ww_isub G d_T_insert_34 ?_
        refine ww_iaload G ar_2 h0 d_T_insert_35 h (fun v35 h => ?_)
        refine ww_aload_n 0 G d_T_insert_36 rfl rfl ?_
        refine ww_getr G fs_T_15 h0 d_T_insert_37 ?_
        refine ww_iload 4 G d_T_insert_40 rfl ?_
        refine ww_iconst (v := (1 : Int32)) G d_T_insert_42 ic_1 ?_
        refine ww_isub G d_T_insert_43 ?_
        refine ww_iaload G ar_3 h0 d_T_insert_44 h (fun v44 h => ?_)
        refine ww_aload_n 0 G d_T_insert_45 rfl rfl ?_
        refine ww_getr G fs_T_18 h0 d_T_insert_46 ?_
        refine ww_iload 4 G d_T_insert_49 rfl ?_
        refine ww_iconst (v := (1 : Int32)) G d_T_insert_51 ic_1 ?_
        refine ww_isub G d_T_insert_52 ?_
        refine ww_iaload G ar_4 h0 d_T_insert_53 h (fun v53 h => ?_)
        refine ww_cvV (As := [_, _, _, _]) G E cs_T_25 h0 (fun o q h => c_T_set i0 x4 v35 v44 v53 h0 _ _ _ h) rfl rfl (Nat.le_of_ble_eq_true rfl) d_T_insert_54 (by decide) h (fun s54 h => ?_)
        refine ww_iinc 4 (L' := [(4, _), (0, _), (1, _), (2, _), (3, _)]) G d_T_insert_57 rfl ic_m1 (by decide) rfl ?_
        refine ww_goto (tgt := 6) G d_T_insert_60 (by decide) ?_
        refine ww_sub [1, 2, 3, 4, 0] rfl ?_
        exact ih _ _ h
def f_T_insert (i0 : Nat) (x1 : Int32) (x2 : Int32) (x3 : Int32) (s : Mem) : RR :=
  mm_gf s 1 i0 3 fun v1 =>
  mm_lp (fun kk => lp_T_insert_6 i0 x1 x2 x3 kk FU v1 s) fun x4_6 s6 =>
  mm_cV (f_T_set i0 x4_6 x1 x2 x3 s6) fun s69 =>
  mm_gf s69 1 i0 3 fun v74 =>
  mm_pf s69 1 i0 3 (v74 + ((1 : Int32))) fun s79 =>
  mm_rv s79
set_option maxRecDepth 100000 in
set_option maxHeartbeats 4000000 in
theorem c_T_insert {l : Launch} {K : KK} (i0 : Nat) (x1 : Int32) (x2 : Int32) (x3 : Int32) (h0 : i0 < 8) (s : Mem) (o : Oc) (q : Mem) (h : f_T_insert i0 x1 x2 x3 s = some (o, q)) : Ct l K y_T_insert b_T_insert 5 none 1 24 [.ref (aa K 1 i0), .int x1, .int x2, .int x3] s o q := by
  refine Ct_of (own := "VillageMail$Timetable") (L := [(0, _), (1, _), (2, _), (3, _)]) (by decide +kernel) rfl (Nat.le_of_ble_eq_true rfl) rfl (fun Γ G E => ?_)
  unfold f_T_insert at h
  refine ww_aload_n 0 G d_T_insert_0 rfl rfl ?_
  refine ww_getf G fs_T_21 h0 d_T_insert_1 h (fun v1 h => ?_)
  refine ww_istore (L' := [(4, _), (0, _), (1, _), (2, _), (3, _)]) G d_T_insert_4 (by decide) rfl ?_
  refine ww_sub [1, 2, 3, 4, 0] rfl ?_
  refine lp_T_insert_6_ok i0 x1 x2 x3 h0 _ G E (fun x4_6 s6 h => ?_) FU _ _ h
  refine ww_aload_n 0 G d_T_insert_63 rfl rfl ?_
  refine ww_iload 4 G d_T_insert_64 rfl ?_
  refine ww_iload_n 1 G d_T_insert_66 rfl rfl ?_
  refine ww_iload_n 2 G d_T_insert_67 rfl rfl ?_
  refine ww_iload_n 3 G d_T_insert_68 rfl rfl ?_
  refine ww_cvV (As := [_, _, _, _]) G E cs_T_25 h0 (fun o q h => c_T_set i0 x4_6 x1 x2 x3 h0 _ _ _ h) rfl rfl (Nat.le_of_ble_eq_true rfl) d_T_insert_69 (by decide) h (fun s69 h => ?_)
  refine ww_aload_n 0 G d_T_insert_72 rfl rfl ?_
  refine ww_dup G d_T_insert_73 rfl ?_
  refine ww_getf G fs_T_21 h0 d_T_insert_74 h (fun v74 h => ?_)
  refine ww_iconst (v := (1 : Int32)) G d_T_insert_77 ic_1 ?_
  refine ww_iadd G d_T_insert_78 ?_
  refine ww_putf G fs_T_21 h0 d_T_insert_79 h (fun s79 h => ?_)
  exact ww_vret G E d_T_insert_82 h
def lp_T_takeOut_12 (i0 : Nat) (k : Mem → RR) : Nat → Int32 → Mem → RR
  | 0, _, _ => none
  | n + 1, x2, s =>
    mm_gf s 1 i0 3 fun v14 =>
    if v14 ≤ x2 then (
      k s
    ) else (
      mm_ld s 2 i0 24 (x2 + ((1 : Int32))) fun v29 =>
      mm_ld s 3 i0 24 (x2 + ((1 : Int32))) fun v37 =>
      mm_ld s 4 i0 24 (x2 + ((1 : Int32))) fun v45 =>
      mm_cV (f_T_set i0 x2 v29 v37 v45 s) fun s46 =>
      lp_T_takeOut_12 i0 k n (x2 + (1 : Int32)) s46
    )
set_option maxRecDepth 100000 in
set_option maxHeartbeats 4000000 in
theorem lp_T_takeOut_12_ok {K : KK} {Γ : Cx} {o : Oc} {q : Mem} (i0 : Nat) (h0 : i0 < 8) (k : Mem → RR) (G : Good K Γ b_T_takeOut "VillageMail$Timetable" 3 1 24) (E : Ends K Γ none o q)
    (Kx : ∀  (s : Mem), k s = some (o, q) → WW K Γ 0 s 55 [] []) :
    ∀ (n : Nat) (x2 : Int32) (s : Mem), lp_T_takeOut_12 i0 k n x2 s = some (o, q) → WW K Γ 0 s 12 [(0, .ref (aa K 1 i0)), (2, .int x2)] [] := by
  intro n
  induction n with
  | zero => intro _ _ h; exact nomatch h
  | succ n ih =>
    intro x2 s h
    unfold lp_T_takeOut_12 at h
    refine ww_iload_n 1 G d_T_takeOut_12 rfl rfl ?_
    refine ww_aload_n 0 G d_T_takeOut_13 rfl rfl ?_
    refine ww_getf G fs_T_21 h0 d_T_takeOut_14 h (fun v14 h => ?_)
    refine ww_icmpge (tgt := 55) G d_T_takeOut_17 (by decide) h (fun h => ?_) (fun h => ?_)
    · skip
      refine ww_sub [] rfl ?_
      exact Kx  _ h
    · skip
      refine ww_aload_n 0 G d_T_takeOut_20 rfl rfl ?_
      refine ww_iload_n 1 G d_T_takeOut_21 rfl rfl ?_
      refine ww_aload_n 0 G d_T_takeOut_22 rfl rfl ?_
      refine ww_getr G fs_T_9 h0 d_T_takeOut_23 ?_
      refine ww_iload_n 1 G d_T_takeOut_26 rfl rfl ?_
      refine ww_iconst (v := (1 : Int32)) G d_T_takeOut_27 ic_1 ?_
      refine ww_iadd G d_T_takeOut_28 ?_
      refine ww_iaload G ar_2 h0 d_T_takeOut_29 h (fun v29 h => ?_)
      refine ww_aload_n 0 G d_T_takeOut_30 rfl rfl ?_
      refine ww_getr G fs_T_15 h0 d_T_takeOut_31 ?_
      refine ww_iload_n 1 G d_T_takeOut_34 rfl rfl ?_
      refine ww_iconst (v := (1 : Int32)) G d_T_takeOut_35 ic_1 ?_
      refine ww_iadd G d_T_takeOut_36 ?_
      refine ww_iaload G ar_3 h0 d_T_takeOut_37 h (fun v37 h => ?_)
      refine ww_aload_n 0 G d_T_takeOut_38 rfl rfl ?_
      refine ww_getr G fs_T_18 h0 d_T_takeOut_39 ?_
      refine ww_iload_n 1 G d_T_takeOut_42 rfl rfl ?_
      refine ww_iconst (v := (1 : Int32)) G d_T_takeOut_43 ic_1 ?_
      refine ww_iadd G d_T_takeOut_44 ?_
      refine ww_iaload G ar_4 h0 d_T_takeOut_45 h (fun v45 h => ?_)
      refine ww_cvV (As := [_, _, _, _]) G E cs_T_25 h0 (fun o q h => c_T_set i0 x2 v29 v37 v45 h0 _ _ _ h) rfl rfl (Nat.le_of_ble_eq_true rfl) d_T_takeOut_46 (by decide) h (fun s46 h => ?_)
      refine ww_iinc 1 (L' := [(2, _), (0, _)]) G d_T_takeOut_49 rfl ic_1 (by decide) rfl ?_
      refine ww_goto (tgt := 12) G d_T_takeOut_52 (by decide) ?_
      refine ww_sub [1, 0] rfl ?_
      exact ih _ _ h
def f_T_takeOut (i0 : Nat) (x1 : Int32) (s : Mem) : RR :=
  mm_gf s 1 i0 3 fun v2 =>
  mm_pf s 1 i0 3 (v2 - ((1 : Int32))) fun s7 =>
  mm_lp (fun kk => lp_T_takeOut_12 i0 kk FU x1 s7) fun s12 =>
  mm_rv s12
set_option maxRecDepth 100000 in
set_option maxHeartbeats 4000000 in
theorem c_T_takeOut {l : Launch} {K : KK} (i0 : Nat) (x1 : Int32) (h0 : i0 < 8) (s : Mem) (o : Oc) (q : Mem) (h : f_T_takeOut i0 x1 s = some (o, q)) : Ct l K y_T_takeOut b_T_takeOut 3 none 1 24 [.ref (aa K 1 i0), .int x1] s o q := by
  refine Ct_of (own := "VillageMail$Timetable") (L := [(0, _), (1, _)]) (by decide +kernel) rfl (Nat.le_of_ble_eq_true rfl) rfl (fun Γ G E => ?_)
  unfold f_T_takeOut at h
  refine ww_aload_n 0 G d_T_takeOut_0 rfl rfl ?_
  refine ww_dup G d_T_takeOut_1 rfl ?_
  refine ww_getf G fs_T_21 h0 d_T_takeOut_2 h (fun v2 h => ?_)
  refine ww_iconst (v := (1 : Int32)) G d_T_takeOut_5 ic_1 ?_
  refine ww_isub G d_T_takeOut_6 ?_
  refine ww_putf G fs_T_21 h0 d_T_takeOut_7 h (fun s7 h => ?_)
  refine ww_iload_n 1 G d_T_takeOut_10 rfl rfl ?_
  refine ww_istore_n (L' := [(2, _), (0, _), (1, _)]) G d_T_takeOut_11 rfl (by decide) rfl ?_
  refine ww_sub [1, 0] rfl ?_
  refine lp_T_takeOut_12_ok i0 h0 _ G E (fun s12 h => ?_) FU _ _ h
  exact ww_vret G E d_T_takeOut_55 h

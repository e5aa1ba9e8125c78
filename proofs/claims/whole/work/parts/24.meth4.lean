def lp_X_handOverText_11 (i1 : Nat) (x2 : Int32) (x3 : Int32) (k : Mem → RR) : Nat → Int32 → Mem → RR
  | 0, _, _ => none
  | n + 1, x4, s =>
    if x3 ≤ x4 then (
      k s
    ) else (
      mm_ldj s 21 0 4 x4 fun v30 =>
      mm_cV (f_S_take i1 ((x2 * ((4 : Int32))) + x4) v30 ((0 : Int32)) s) fun s32 =>
      lp_X_handOverText_11 i1 x2 x3 k n (x4 + (1 : Int32)) s32
    )
set_option maxRecDepth 100000 in
set_option maxHeartbeats 4000000 in
theorem lp_X_handOverText_11_ok {K : KK} {Γ : Cx} {o : Oc} {q : Mem} (i1 : Nat) (x2 : Int32) (x3 : Int32) (h1 : i1 < 12) (k : Mem → RR) (G : Good K Γ b_X_handOverText "VillageMail" 5 1 24) (E : Ends K Γ none o q)
    (Kx : ∀  (s : Mem), k s = some (o, q) → WW K Γ 0 s 41 [(0, .ref (aa K 0 0))] []) :
    ∀ (n : Nat) (x4 : Int32) (s : Mem), lp_X_handOverText_11 i1 x2 x3 k n x4 s = some (o, q) → WW K Γ 0 s 11 [(0, .ref (aa K 0 0)), (1, .ref (aa K 7 i1)), (2, .int x2), (3, .int x3), (4, .int x4)] [] := by
  intro n
  induction n with
  | zero => intro _ _ h; exact nomatch h
  | succ n ih =>
    intro x4 s h
    unfold lp_X_handOverText_11 at h
    refine ww_iload 4 G d_X_handOverText_11 rfl ?_
    refine ww_iload_n 3 G d_X_handOverText_13 rfl rfl ?_
    refine ww_icmpge (tgt := 41) G d_X_handOverText_14 (by decide) h (fun h => ?_) (fun h => ?_)
    · skip
      refine ww_sub [0] rfl ?_
      exact Kx  _ h
    · skip
      refine ww_aload_n 1 G d_X_handOverText_17 rfl rfl ?_
      refine ww_iload_n 2 G d_X_handOverText_18 rfl rfl ?_
      refine ww_iconst (v := (4 : Int32)) G d_X_handOverText_19 ic_4 ?_
      refine ww_imul G d_X_handOverText_20 ?_
      refine ww_iload 4 G d_X_handOverText_21 rfl ?_
      refine ww_iadd G d_X_handOverText_23 ?_
      refine ww_aload_n 0 G d_X_handOverText_24 rfl rfl ?_
      refine ww_getr G fs_X_43 (by decide) d_X_handOverText_25 ?_
      refine ww_iload 4 G d_X_handOverText_28 rfl ?_
      refine ww_laload G ar_21 (by decide) d_X_handOverText_30 h (fun v30 h => ?_)
      refine ww_iconst (v := (0 : Int32)) G d_X_handOverText_31 ic_0 ?_
      refine ww_cvV (As := [_, _, _]) G E cs_X_217 h1 (fun o q h => c_S_take i1 ((x2 * ((4 : Int32))) + x4) v30 ((0 : Int32)) h1 _ _ _ h) rfl rfl (Nat.le_of_ble_eq_true rfl) d_X_handOverText_32 (by decide) h (fun s32 h => ?_)
      refine ww_iinc 4 (L' := [(4, _), (0, _), (1, _), (2, _), (3, _)]) G d_X_handOverText_35 rfl ic_1 (by decide) rfl ?_
      refine ww_goto (tgt := 11) G d_X_handOverText_38 (by decide) ?_
      refine ww_sub [1, 2, 3, 4, 0] rfl ?_
      exact ih _ _ h
def f_X_handOverText (i1 : Nat) (x2 : Int32) (s : Mem) : RR :=
  mm_gf s 0 0 9 fun v1 =>
  mm_cI (f_X_piecesIn v1 s) fun v4 s4 =>
  mm_lp (fun kk => lp_X_handOverText_11 i1 x2 v4 kk FU ((0 : Int32)) s4) fun s11 =>
  mm_cV (f_A_fillJ 21 0 4 ((0 : Int64)) s11) fun s46 =>
  mm_pf s46 0 0 9 ((0 : Int32)) fun s51 =>
  mm_rv s51
set_option maxRecDepth 100000 in
set_option maxHeartbeats 4000000 in
theorem c_X_handOverText {l : Launch} {K : KK} (i1 : Nat) (x2 : Int32) (h1 : i1 < 12) (s : Mem) (o : Oc) (q : Mem) (h : f_X_handOverText i1 x2 s = some (o, q)) : Ct l K y_X_handOverText b_X_handOverText 5 none 1 24 [.ref (aa K 0 0), .ref (aa K 7 i1), .int x2] s o q := by
  refine Ct_of (own := "VillageMail") (L := [(0, _), (1, _), (2, _)]) (by decide +kernel) rfl (Nat.le_of_ble_eq_true rfl) rfl (fun Γ G E => ?_)
  unfold f_X_handOverText at h
  refine ww_aload_n 0 G d_X_handOverText_0 rfl rfl ?_
  refine ww_getf G fs_X_164 (by decide) d_X_handOverText_1 h (fun v1 h => ?_)
  refine ww_csI (As := [_]) G E cs_X_178 (fun o q h => c_X_piecesIn v1 _ _ _ h) rfl rfl (Nat.le_of_ble_eq_true rfl) d_X_handOverText_4 (by decide) h (fun v4 s4 h => ?_)
  refine ww_istore_n (L' := [(3, _), (0, _), (1, _), (2, _)]) G d_X_handOverText_7 rfl (by decide) rfl ?_
  refine ww_iconst (v := (0 : Int32)) G d_X_handOverText_8 ic_0 ?_
  refine ww_istore (L' := [(4, _), (3, _), (0, _), (1, _), (2, _)]) G d_X_handOverText_9 (by decide) rfl ?_
  refine ww_sub [2, 3, 4, 1, 0] rfl ?_
  refine lp_X_handOverText_11_ok i1 x2 v4 h1 _ G E (fun s11 h => ?_) FU _ _ h
  refine ww_aload_n 0 G d_X_handOverText_41 rfl rfl ?_
  refine ww_getr G fs_X_43 (by decide) d_X_handOverText_42 ?_
  refine ww_lconst (v := (0 : Int64)) G d_X_handOverText_45 lc_0 ?_
  refine ww_csV (As := [_, _]) G E cs_X_221 (fun o q h => c_A_fillJ 21 0 4 ar_21 (by decide) _ _ h) rfl rfl (Nat.le_of_ble_eq_true rfl) d_X_handOverText_46 (by decide) h (fun s46 h => ?_)
  refine ww_aload_n 0 G d_X_handOverText_49 rfl rfl ?_
  refine ww_iconst (v := (0 : Int32)) G d_X_handOverText_50 ic_0 ?_
  refine ww_putf G fs_X_164 (by decide) d_X_handOverText_51 h (fun s51 h => ?_)
  exact ww_vret G E d_X_handOverText_54 h
def f_X_post (x1 : Int32) (x2 : Int32) (x3 : Int32) (x4 : Int32) (s : Mem) : RR :=
  mm_cI (f_X_isKiosk x1 s) fun v1 s1 =>
  mm_jn (fun (y36 : Int32) s36 =>
    mm_tV (f_X_demand y36 s36) fun s36 =>
    mm_gf s36 0 0 9 fun v40 =>
    mm_jn (fun (y51 : Int32) s51 =>
      mm_tV (f_X_demand y51 s51) fun s51 =>
      mm_gf s51 0 0 7 fun v55 =>
      if v55 = ((16 : Int32)) then (
        mm_th 2 s51
      ) else (
        mm_al 12 x1 fun j68 =>
        mm_cI (f_S_room j68 s51) fun v69 s69 =>
        mm_gf s69 0 0 9 fun v73 =>
        mm_cI (f_X_piecesIn v73 s69) fun v76 s76 =>
        if v76 ≤ v69 then (
          mm_gf s76 0 0 7 fun v91 =>
          mm_gf s76 0 0 7 fun v98 =>
          mm_pf s76 0 0 7 (v98 + ((1 : Int32))) fun s103 =>
          mm_al 16 v91 fun j112 =>
          mm_pf s103 19 j112 0 x1 fun s118 =>
          mm_pf s118 19 j112 1 x2 fun s124 =>
          mm_pf s124 19 j112 2 x3 fun s130 =>
          mm_pf s130 19 j112 3 x4 fun s137 =>
          mm_gf s137 0 0 0 fun v143 =>
          mm_pf s137 19 j112 4 v143 fun s146 =>
          mm_al 12 x1 fun j157 =>
          mm_gf s146 7 j157 6 fun v158 =>
          mm_gf s146 0 0 0 fun v164 =>
          mm_cI (f_X_arrival v158 x1 x2 v164 s146) fun v167 s167 =>
          mm_pf s167 19 j112 5 v167 fun s170 =>
          mm_gf s170 0 0 9 fun v176 =>
          mm_pf s170 19 j112 6 v176 fun s179 =>
          mm_gf s179 0 0 9 fun v189 =>
          mm_cI (f_X_sumOf_21 v189 s179) fun v192 s192 =>
          mm_pf s192 19 j112 7 v192 fun s195 =>
          mm_al 12 x1 fun j204 =>
          mm_cV (f_X_handOverText j204 v91 s195) fun s207 =>
          if ¬ x1 = x2 then (
            mm_ri v91 s207
          ) else (
            mm_cV (f_X_lookAt v91 s207) fun s218 =>
            mm_ri v91 s218
          )
        ) else (
          mm_th 2 s76
        )
      )
    ) (fun r51 =>
    if v40 ≤ 0 then (
      r51 ((0 : Int32)) s36
    ) else (
      r51 ((1 : Int32)) s36
    ))
  ) (fun r36 =>
  if v1 = 0 then (
    r36 ((0 : Int32)) s1
  ) else (
    mm_cI (f_X_isKiosk x2 s1) fun v8 s8 =>
    if v8 = 0 then (
      r36 ((0 : Int32)) s8
    ) else (
      mm_cI (f_X_isWithin x3 ((5 : Int32)) s8) fun v16 s16 =>
      if v16 = 0 then (
        r36 ((0 : Int32)) s16
      ) else (
        mm_cI (f_X_isWithin x4 ((3 : Int32)) s16) fun v25 s25 =>
        if v25 = 0 then (
          r36 ((0 : Int32)) s25
        ) else (
          r36 ((1 : Int32)) s25
        )
      )
    )
  ))
set_option maxRecDepth 100000 in
set_option maxHeartbeats 4000000 in
theorem c_X_post {l : Launch} {K : KK} (x1 : Int32) (x2 : Int32) (x3 : Int32) (x4 : Int32)  (s : Mem) (o : Oc) (q : Mem) (h : f_X_post x1 x2 x3 x4 s = some (o, q)) : Ct l K y_X_post b_X_post 7 (some .int) 7 109 [.ref (aa K 0 0), .int x1, .int x2, .int x3, .int x4] s o q := by
  refine Ct_of (own := "VillageMail") (L := [(0, _), (1, _), (2, _), (3, _), (4, _)]) (by decide +kernel) rfl (Nat.le_of_ble_eq_true rfl) rfl (fun Γ G E => ?_)
  unfold f_X_post at h
  refine ww_iload_n 1 G d_X_post_0 rfl rfl ?_
  refine ww_csI (As := [_]) G E cs_X_71 (fun o q h => c_X_isKiosk x1 _ _ _ h) rfl rfl (Nat.le_of_ble_eq_true rfl) d_X_post_1 (by decide) h (fun v1 s1 h => ?_)
  refine ww_jn h (fun (y36 : Int32) (s36 : Mem) => WW K Γ 0 s36 36 [(0, .ref (aa K 0 0)), (1, .int x1), (2, .int x2), (3, .int x3), (4, .int x4)] [.int y36]) (fun y36 s36 h => ?_) (fun r36 J36 h => ?_)
  · skip
    refine ww_tsV (As := [_]) G E cs_X_78 (fun o q h => c_X_demand y36 _ _ _ h) rfl rfl (Nat.le_of_ble_eq_true rfl) d_X_post_36 (by decide) h (fun s36 h => ?_)
    refine ww_aload_n 0 G d_X_post_39 rfl rfl ?_
    refine ww_getf G fs_X_164 (by decide) d_X_post_40 h (fun v40 h => ?_)
    refine ww_jn h (fun (y51 : Int32) (s51 : Mem) => WW K Γ 0 s51 51 [(0, .ref (aa K 0 0)), (1, .int x1), (2, .int x2), (3, .int x3), (4, .int x4)] [.int y51]) (fun y51 s51 h => ?_) (fun r51 J51 h => ?_)
    · skip
      refine ww_tsV (As := [_]) G E cs_X_78 (fun o q h => c_X_demand y51 _ _ _ h) rfl rfl (Nat.le_of_ble_eq_true rfl) d_X_post_51 (by decide) h (fun s51 h => ?_)
      refine ww_aload_n 0 G d_X_post_54 rfl rfl ?_
      refine ww_getf G fs_X_171 (by decide) d_X_post_55 h (fun v55 h => ?_)
      refine ww_bipush (v := (16 : Int32)) G d_X_post_58 ib_16 ?_
      refine ww_icmpeq (tgt := 82) G d_X_post_60 (by decide) h (fun h => ?_) (fun h => ?_)
      · skip
        exact ww_thr G E xs_X_90 d_X_post_82 d_X_post_85 d_X_post_86 d_X_post_89 (by decide) (Nat.le_of_ble_eq_true rfl) h
      · skip
        refine ww_aload_n 0 G d_X_post_63 rfl rfl ?_
        refine ww_getr G fs_X_22 (by decide) d_X_post_64 ?_
        refine ww_iload_n 1 G d_X_post_67 rfl rfl ?_
        refine ww_aaload G ar_6 (by decide) d_X_post_68 h (fun j68 hj68 h => ?_)
        refine ww_cvI (As := []) G E cs_X_174 hj68 (fun o q h => c_S_room j68 hj68 _ _ _ h) rfl rfl (Nat.le_of_ble_eq_true rfl) d_X_post_69 (by decide) h (fun v69 s69 h => ?_)
        refine ww_aload_n 0 G d_X_post_72 rfl rfl ?_
        refine ww_getf G fs_X_164 (by decide) d_X_post_73 h (fun v73 h => ?_)
        refine ww_csI (As := [_]) G E cs_X_178 (fun o q h => c_X_piecesIn v73 _ _ _ h) rfl rfl (Nat.le_of_ble_eq_true rfl) d_X_post_76 (by decide) h (fun v76 s76 h => ?_)
        refine ww_icmpge (tgt := 90) G d_X_post_79 (by decide) h (fun h => ?_) (fun h => ?_)
        · skip
          refine ww_aload_n 0 G d_X_post_90 rfl rfl ?_
          refine ww_getf G fs_X_171 (by decide) d_X_post_91 h (fun v91 h => ?_)
          refine ww_istore (L' := [(5, _), (0, _), (1, _), (2, _), (3, _), (4, _)]) G d_X_post_94 (by decide) rfl ?_
          refine ww_aload_n 1 G d_X_post_96 rfl rfl ?_
          refine ww_dup G d_X_post_97 rfl ?_
          refine ww_getf G fs_X_171 (by decide) d_X_post_98 h (fun v98 h => ?_)
          refine ww_iconst (v := (1 : Int32)) G d_X_post_101 ic_1 ?_
          refine ww_iadd G d_X_post_102 ?_
          refine ww_putf G fs_X_171 (by decide) d_X_post_103 h (fun s103 h => ?_)
          refine ww_aload_n 1 G d_X_post_106 rfl rfl ?_
          refine ww_getr G fs_X_38 (by decide) d_X_post_107 ?_
          refine ww_iload 0 G d_X_post_110 rfl ?_
          refine ww_aaload G ar_18 (by decide) d_X_post_112 h (fun j112 hj112 h => ?_)
          refine ww_astore (L' := [(6, _), (5, _), (0, _), (1, _), (2, _), (3, _), (4, _)]) G d_X_post_113 (by decide) rfl ?_
          refine ww_aload 0 G d_X_post_115 rfl ?_
          refine ww_iload_n 3 G d_X_post_117 rfl rfl ?_
          refine ww_putf G fs_X_182 hj112 d_X_post_118 h (fun s118 h => ?_)
          refine ww_aload 0 G d_X_post_121 rfl ?_
          refine ww_iload_n 4 G d_X_post_123 rfl rfl ?_
          refine ww_putf G fs_X_185 hj112 d_X_post_124 h (fun s124 h => ?_)
          refine ww_aload 0 G d_X_post_127 rfl ?_
          refine ww_iload_n 5 G d_X_post_129 rfl rfl ?_
          refine ww_putf G fs_X_188 hj112 d_X_post_130 h (fun s130 h => ?_)
          refine ww_aload 0 G d_X_post_133 rfl ?_
          refine ww_iload 6 G d_X_post_135 rfl ?_
          refine ww_putf G fs_X_191 hj112 d_X_post_137 h (fun s137 h => ?_)
          refine ww_aload 0 G d_X_post_140 rfl ?_
          refine ww_aload_n 2 G d_X_post_142 rfl rfl ?_
          refine ww_getf G fs_X_194 (by decide) d_X_post_143 h (fun v143 h => ?_)
          refine ww_putf G fs_X_197 hj112 d_X_post_146 h (fun s146 h => ?_)
          refine ww_aload 0 G d_X_post_149 rfl ?_
          refine ww_aload_n 2 G d_X_post_151 rfl rfl ?_
          refine ww_aload_n 2 G d_X_post_152 rfl rfl ?_
          refine ww_getr G fs_X_22 (by decide) d_X_post_153 ?_
          refine ww_iload_n 3 G d_X_post_156 rfl rfl ?_
          refine ww_aaload G ar_6 (by decide) d_X_post_157 h (fun j157 hj157 h => ?_)
          refine ww_getf G fs_X_107 hj157 d_X_post_158 h (fun v158 h => ?_)
          refine ww_iload_n 3 G d_X_post_161 rfl rfl ?_
          refine ww_iload_n 4 G d_X_post_162 rfl rfl ?_
          refine ww_aload_n 2 G d_X_post_163 rfl rfl ?_
          refine ww_getf G fs_X_194 (by decide) d_X_post_164 h (fun v164 h => ?_)
          refine ww_cvI (As := [_, _, _, _]) G E cs_X_111 (by decide) (fun o q h => c_X_arrival v158 x1 x2 v164 _ _ _ h) rfl rfl (Nat.le_of_ble_eq_true rfl) d_X_post_167 (by decide) h (fun v167 s167 h => ?_)
          refine ww_putf G fs_X_200 hj112 d_X_post_170 h (fun s170 h => ?_)
          refine ww_aload 0 G d_X_post_173 rfl ?_
          refine ww_aload_n 2 G d_X_post_175 rfl rfl ?_
          refine ww_getf G fs_X_164 (by decide) d_X_post_176 h (fun v176 h => ?_)
          refine ww_putf G fs_X_152 hj112 d_X_post_179 h (fun s179 h => ?_)
          refine ww_aload 0 G d_X_post_182 rfl ?_
          refine ww_aload_n 2 G d_X_post_184 rfl rfl ?_
          refine ww_getr G fs_X_43 (by decide) d_X_post_185 ?_
          refine ww_aload_n 2 G d_X_post_188 rfl rfl ?_
          refine ww_getf G fs_X_164 (by decide) d_X_post_189 h (fun v189 h => ?_)
          refine ww_csI (As := [_, _]) G E cs_X_203 (fun o q h => c_X_sumOf_21 v189 _ _ _ h) rfl rfl (Nat.le_of_ble_eq_true rfl) d_X_post_192 (by decide) h (fun v192 s192 h => ?_)
          refine ww_putf G fs_X_207 hj112 d_X_post_195 h (fun s195 h => ?_)
          refine ww_aload_n 2 G d_X_post_198 rfl rfl ?_
          refine ww_aload_n 2 G d_X_post_199 rfl rfl ?_
          refine ww_getr G fs_X_22 (by decide) d_X_post_200 ?_
          refine ww_iload_n 3 G d_X_post_203 rfl rfl ?_
          refine ww_aaload G ar_6 (by decide) d_X_post_204 h (fun j204 hj204 h => ?_)
          refine ww_iload 1 G d_X_post_205 rfl ?_
          refine ww_cvV (As := [_, _]) G E cs_X_210 (by decide) (fun o q h => c_X_handOverText j204 v91 hj204 _ _ _ h) rfl rfl (Nat.le_of_ble_eq_true rfl) d_X_post_207 (by decide) h (fun s207 h => ?_)
          refine ww_iload_n 3 G d_X_post_210 rfl rfl ?_
          refine ww_iload_n 4 G d_X_post_211 rfl rfl ?_
          refine ww_icmpne (tgt := 221) G d_X_post_212 (by decide) h (fun h => ?_) (fun h => ?_)
          · skip
            refine ww_iload 1 G d_X_post_221 rfl ?_
            exact ww_iret G E d_X_post_223 h
          · skip
            refine ww_aload_n 2 G d_X_post_215 rfl rfl ?_
            refine ww_iload 1 G d_X_post_216 rfl ?_
            refine ww_cvV (As := [_]) G E cs_X_214 (by decide) (fun o q h => c_X_lookAt v91 _ _ _ h) rfl rfl (Nat.le_of_ble_eq_true rfl) d_X_post_218 (by decide) h (fun s218 h => ?_)
            refine ww_iload 1 G d_X_post_221 rfl ?_
            exact ww_iret G E d_X_post_223 h
        · skip
          exact ww_thr G E xs_X_90 d_X_post_82 d_X_post_85 d_X_post_86 d_X_post_89 (by decide) (Nat.le_of_ble_eq_true rfl) h
    refine ww_ifle (tgt := 50) G d_X_post_43 (by decide) h (fun h => ?_) (fun h => ?_)
    · skip
      refine ww_iconst (v := (0 : Int32)) G d_X_post_50 ic_0 ?_
      exact J51 _ _ h
    · skip
      refine ww_iconst (v := (1 : Int32)) G d_X_post_46 ic_1 ?_
      refine ww_goto (tgt := 51) G d_X_post_47 (by decide) ?_
      exact J51 _ _ h
  refine ww_ifeq (tgt := 35) G d_X_post_4 (by decide) h (fun h => ?_) (fun h => ?_)
  · skip
    refine ww_iconst (v := (0 : Int32)) G d_X_post_35 ic_0 ?_
    exact J36 _ _ h
  · skip
    refine ww_iload_n 2 G d_X_post_7 rfl rfl ?_
    refine ww_csI (As := [_]) G E cs_X_71 (fun o q h => c_X_isKiosk x2 _ _ _ h) rfl rfl (Nat.le_of_ble_eq_true rfl) d_X_post_8 (by decide) h (fun v8 s8 h => ?_)
    refine ww_ifeq (tgt := 35) G d_X_post_11 (by decide) h (fun h => ?_) (fun h => ?_)
    · skip
      refine ww_iconst (v := (0 : Int32)) G d_X_post_35 ic_0 ?_
      exact J36 _ _ h
    · skip
      refine ww_iload_n 3 G d_X_post_14 rfl rfl ?_
      refine ww_iconst (v := (5 : Int32)) G d_X_post_15 ic_5 ?_
      refine ww_csI (As := [_, _]) G E cs_X_74 (fun o q h => c_X_isWithin x3 ((5 : Int32)) _ _ _ h) rfl rfl (Nat.le_of_ble_eq_true rfl) d_X_post_16 (by decide) h (fun v16 s16 h => ?_)
      refine ww_ifeq (tgt := 35) G d_X_post_19 (by decide) h (fun h => ?_) (fun h => ?_)
      · skip
        refine ww_iconst (v := (0 : Int32)) G d_X_post_35 ic_0 ?_
        exact J36 _ _ h
      · skip
        refine ww_iload 4 G d_X_post_22 rfl ?_
        refine ww_iconst (v := (3 : Int32)) G d_X_post_24 ic_3 ?_
        refine ww_csI (As := [_, _]) G E cs_X_74 (fun o q h => c_X_isWithin x4 ((3 : Int32)) _ _ _ h) rfl rfl (Nat.le_of_ble_eq_true rfl) d_X_post_25 (by decide) h (fun v25 s25 h => ?_)
        refine ww_ifeq (tgt := 35) G d_X_post_28 (by decide) h (fun h => ?_) (fun h => ?_)
        · skip
          refine ww_iconst (v := (0 : Int32)) G d_X_post_35 ic_0 ?_
          exact J36 _ _ h
        · skip
          refine ww_iconst (v := (1 : Int32)) G d_X_post_31 ic_1 ?_
          refine ww_goto (tgt := 36) G d_X_post_32 (by decide) ?_
          exact J36 _ _ h
def f_X_status (x1 : Int32) (s : Mem) : RR :=
  mm_gf s 0 0 7 fun v2 =>
  mm_cI (f_X_isWithin x1 v2 s) fun v5 s5 =>
  mm_tV (f_X_demand v5 s5) fun s8 =>
  mm_al 16 x1 fun j20 =>
  mm_gf s8 19 j20 0 fun v21 =>
  mm_al 12 v21 fun j24 =>
  mm_ld s8 11 j24 16 x1 fun v29 =>
  if ¬ v29 = 0 then (
    mm_ri v29 s8
  ) else (
    mm_al 16 x1 fun j40 =>
    mm_gf s8 19 j40 9 fun v41 =>
    if v41 = 0 then (
      mm_ri v29 s8
    ) else (
      mm_ri ((3 : Int32)) s8
    )
  )
set_option maxRecDepth 100000 in
set_option maxHeartbeats 4000000 in
theorem c_X_status {l : Launch} {K : KK} (x1 : Int32)  (s : Mem) (o : Oc) (q : Mem) (h : f_X_status x1 s = some (o, q)) : Ct l K y_X_status b_X_status 3 (some .int) 7 109 [.ref (aa K 0 0), .int x1] s o q := by
  refine Ct_of (own := "VillageMail") (L := [(0, _), (1, _)]) (by decide +kernel) rfl (Nat.le_of_ble_eq_true rfl) rfl (fun Γ G E => ?_)
  unfold f_X_status at h
  refine ww_iload_n 1 G d_X_status_0 rfl rfl ?_
  refine ww_aload_n 0 G d_X_status_1 rfl rfl ?_
  refine ww_getf G fs_X_171 (by decide) d_X_status_2 h (fun v2 h => ?_)
  refine ww_csI (As := [_, _]) G E cs_X_74 (fun o q h => c_X_isWithin x1 v2 _ _ _ h) rfl rfl (Nat.le_of_ble_eq_true rfl) d_X_status_5 (by decide) h (fun v5 s5 h => ?_)
  refine ww_tsV (As := [_]) G E cs_X_78 (fun o q h => c_X_demand v5 _ _ _ h) rfl rfl (Nat.le_of_ble_eq_true rfl) d_X_status_8 (by decide) h (fun s8 h => ?_)
  refine ww_aload_n 0 G d_X_status_11 rfl rfl ?_
  refine ww_getr G fs_X_22 (by decide) d_X_status_12 ?_
  refine ww_aload_n 0 G d_X_status_15 rfl rfl ?_
  refine ww_getr G fs_X_38 (by decide) d_X_status_16 ?_
  refine ww_iload_n 1 G d_X_status_19 rfl rfl ?_
  refine ww_aaload G ar_18 (by decide) d_X_status_20 h (fun j20 hj20 h => ?_)
  refine ww_getf G fs_X_182 hj20 d_X_status_21 h (fun v21 h => ?_)
  refine ww_aaload G ar_6 (by decide) d_X_status_24 h (fun j24 hj24 h => ?_)
  refine ww_getr G fs_X_227 hj24 d_X_status_25 ?_
  refine ww_iload_n 1 G d_X_status_28 rfl rfl ?_
  refine ww_iaload G ar_11 hj24 d_X_status_29 h (fun v29 h => ?_)
  refine ww_istore_n (L' := [(2, _), (0, _), (1, _)]) G d_X_status_30 rfl (by decide) rfl ?_
  refine ww_iload_n 0 G d_X_status_31 rfl rfl ?_
  refine ww_ifne (tgt := 51) G d_X_status_32 (by decide) h (fun h => ?_) (fun h => ?_)
  · skip
    refine ww_iload_n 0 G d_X_status_51 rfl rfl ?_
    exact ww_iret G E d_X_status_52 h
  · skip
    refine ww_aload_n 1 G d_X_status_35 rfl rfl ?_
    refine ww_getr G fs_X_38 (by decide) d_X_status_36 ?_
    refine ww_iload_n 2 G d_X_status_39 rfl rfl ?_
    refine ww_aaload G ar_18 (by decide) d_X_status_40 h (fun j40 hj40 h => ?_)
    refine ww_getf G fs_X_230 hj40 d_X_status_41 h (fun v41 h => ?_)
    refine ww_ifeq (tgt := 51) G d_X_status_44 (by decide) h (fun h => ?_) (fun h => ?_)
    · skip
      refine ww_iload_n 0 G d_X_status_51 rfl rfl ?_
      exact ww_iret G E d_X_status_52 h
    · skip
      refine ww_iconst (v := (3 : Int32)) G d_X_status_47 ic_3 ?_
      refine ww_goto (tgt := 52) G d_X_status_48 (by decide) ?_
      exact ww_iret G E d_X_status_52 h
def lp_X_custodians_15 (x1 : Int32) (k : Int32 → Mem → RR) : Nat → Int32 → Int32 → Mem → RR
  | 0, _, _, _ => none
  | n + 1, x2, x3, s =>
    if ((12 : Int32)) ≤ x3 then (
      k x2 s
    ) else (
      mm_al 12 x3 fun j26 =>
      mm_cI (f_S_countOf j26 x1 s) fun v28 s28 =>
      if v28 ≤ 0 then (
        lp_X_custodians_15 x1 k n x2 (x3 + (1 : Int32)) s28
      ) else (
        lp_X_custodians_15 x1 k n (x2 ||| (mm_ishl ((1 : Int32)) x3)) (x3 + (1 : Int32)) s28
      )
    )
set_option maxRecDepth 100000 in
set_option maxHeartbeats 4000000 in
theorem lp_X_custodians_15_ok {K : KK} {Γ : Cx} {o : Oc} {q : Mem} (x1 : Int32)  (k : Int32 → Mem → RR) (G : Good K Γ b_X_custodians "VillageMail" 4 7 109) (E : Ends K Γ (some .int) o q)
    (Kx : ∀ (x2 : Int32) (s : Mem), k x2 s = some (o, q) → WW K Γ 0 s 46 [(2, .int x2)] []) :
    ∀ (n : Nat) (x2 : Int32) (x3 : Int32) (s : Mem), lp_X_custodians_15 x1 k n x2 x3 s = some (o, q) → WW K Γ 0 s 15 [(0, .ref (aa K 0 0)), (1, .int x1), (2, .int x2), (3, .int x3)] [] := by
  intro n
  induction n with
  | zero => intro _ _ _ h; exact nomatch h
  | succ n ih =>
    intro x2 x3 s h
    unfold lp_X_custodians_15 at h
    refine ww_iload_n 3 G d_X_custodians_15 rfl rfl ?_
    refine ww_bipush (v := (12 : Int32)) G d_X_custodians_16 ib_12 ?_
    refine ww_icmpge (tgt := 46) G d_X_custodians_18 (by decide) h (fun h => ?_) (fun h => ?_)
    · skip
      refine ww_sub [2] rfl ?_
      exact Kx _ _ h
    · skip
      refine ww_aload_n 0 G d_X_custodians_21 rfl rfl ?_
      refine ww_getr G fs_X_22 (by decide) d_X_custodians_22 ?_
      refine ww_iload_n 3 G d_X_custodians_25 rfl rfl ?_
      refine ww_aaload G ar_6 (by decide) d_X_custodians_26 h (fun j26 hj26 h => ?_)
      refine ww_iload_n 1 G d_X_custodians_27 rfl rfl ?_
      refine ww_cvI (As := [_]) G E cs_X_234 hj26 (fun o q h => c_S_countOf j26 x1 hj26 _ _ _ h) rfl rfl (Nat.le_of_ble_eq_true rfl) d_X_custodians_28 (by decide) h (fun v28 s28 h => ?_)
      refine ww_ifle (tgt := 40) G d_X_custodians_31 (by decide) h (fun h => ?_) (fun h => ?_)
      · skip
        refine ww_iinc 3 (L' := [(3, _), (0, _), (1, _), (2, _)]) G d_X_custodians_40 rfl ic_1 (by decide) rfl ?_
        refine ww_goto (tgt := 15) G d_X_custodians_43 (by decide) ?_
        refine ww_sub [1, 2, 3, 0] rfl ?_
        exact ih _ _ _ h
      · skip
        refine ww_iload_n 2 G d_X_custodians_34 rfl rfl ?_
        refine ww_iconst (v := (1 : Int32)) G d_X_custodians_35 ic_1 ?_
        refine ww_iload_n 3 G d_X_custodians_36 rfl rfl ?_
        refine ww_ishl G d_X_custodians_37 ?_
        refine ww_ior G d_X_custodians_38 ?_
        refine ww_istore_n (L' := [(2, _), (0, _), (1, _), (3, _)]) G d_X_custodians_39 rfl (by decide) rfl ?_
        refine ww_iinc 3 (L' := [(3, _), (2, _), (0, _), (1, _)]) G d_X_custodians_40 rfl ic_1 (by decide) rfl ?_
        refine ww_goto (tgt := 15) G d_X_custodians_43 (by decide) ?_
        refine ww_sub [2, 3, 1, 0] rfl ?_
        exact ih _ _ _ h
def f_X_custodians (x1 : Int32) (s : Mem) : RR :=
  mm_gf s 0 0 7 fun v2 =>
  mm_cI (f_X_isWithin x1 v2 s) fun v5 s5 =>
  mm_tV (f_X_demand v5 s5) fun s8 =>
  mm_lp (fun kk => lp_X_custodians_15 x1 kk FU ((0 : Int32)) ((0 : Int32)) s8) fun x2_15 s15 =>
  mm_ri x2_15 s15
set_option maxRecDepth 100000 in
set_option maxHeartbeats 4000000 in
theorem c_X_custodians {l : Launch} {K : KK} (x1 : Int32)  (s : Mem) (o : Oc) (q : Mem) (h : f_X_custodians x1 s = some (o, q)) : Ct l K y_X_custodians b_X_custodians 4 (some .int) 7 109 [.ref (aa K 0 0), .int x1] s o q := by
  refine Ct_of (own := "VillageMail") (L := [(0, _), (1, _)]) (by decide +kernel) rfl (Nat.le_of_ble_eq_true rfl) rfl (fun Γ G E => ?_)
  unfold f_X_custodians at h
  refine ww_iload_n 1 G d_X_custodians_0 rfl rfl ?_
  refine ww_aload_n 0 G d_X_custodians_1 rfl rfl ?_
  refine ww_getf G fs_X_171 (by decide) d_X_custodians_2 h (fun v2 h => ?_)
  refine ww_csI (As := [_, _]) G E cs_X_74 (fun o q h => c_X_isWithin x1 v2 _ _ _ h) rfl rfl (Nat.le_of_ble_eq_true rfl) d_X_custodians_5 (by decide) h (fun v5 s5 h => ?_)
  refine ww_tsV (As := [_]) G E cs_X_78 (fun o q h => c_X_demand v5 _ _ _ h) rfl rfl (Nat.le_of_ble_eq_true rfl) d_X_custodians_8 (by decide) h (fun s8 h => ?_)
  refine ww_iconst (v := (0 : Int32)) G d_X_custodians_11 ic_0 ?_
  refine ww_istore_n (L' := [(2, _), (0, _), (1, _)]) G d_X_custodians_12 rfl (by decide) rfl ?_
  refine ww_iconst (v := (0 : Int32)) G d_X_custodians_13 ic_0 ?_
  refine ww_istore_n (L' := [(3, _), (2, _), (0, _), (1, _)]) G d_X_custodians_14 rfl (by decide) rfl ?_
  refine ww_sub [2, 3, 1, 0] rfl ?_
  refine lp_X_custodians_15_ok x1 _ G E (fun x2_15 s15 h => ?_) FU _ _ _ h
  refine ww_iload_n 0 G d_X_custodians_46 rfl rfl ?_
  exact ww_iret G E d_X_custodians_47 h
def f_X_promise (x1 : Int32) (s : Mem) : RR :=
  mm_gf s 0 0 7 fun v2 =>
  mm_cI (f_X_isWithin x1 v2 s) fun v5 s5 =>
  mm_tV (f_X_demand v5 s5) fun s8 =>
  mm_al 16 x1 fun j16 =>
  mm_gf s8 19 j16 5 fun v17 =>
  mm_ri v17 s8
set_option maxRecDepth 100000 in
set_option maxHeartbeats 4000000 in
theorem c_X_promise {l : Launch} {K : KK} (x1 : Int32)  (s : Mem) (o : Oc) (q : Mem) (h : f_X_promise x1 s = some (o, q)) : Ct l K y_X_promise b_X_promise 2 (some .int) 7 109 [.ref (aa K 0 0), .int x1] s o q := by
  refine Ct_of (own := "VillageMail") (L := [(0, _), (1, _)]) (by decide +kernel) rfl (Nat.le_of_ble_eq_true rfl) rfl (fun Γ G E => ?_)
  unfold f_X_promise at h
  refine ww_iload_n 1 G d_X_promise_0 rfl rfl ?_
  refine ww_aload_n 0 G d_X_promise_1 rfl rfl ?_
  refine ww_getf G fs_X_171 (by decide) d_X_promise_2 h (fun v2 h => ?_)
  refine ww_csI (As := [_, _]) G E cs_X_74 (fun o q h => c_X_isWithin x1 v2 _ _ _ h) rfl rfl (Nat.le_of_ble_eq_true rfl) d_X_promise_5 (by decide) h (fun v5 s5 h => ?_)
  refine ww_tsV (As := [_]) G E cs_X_78 (fun o q h => c_X_demand v5 _ _ _ h) rfl rfl (Nat.le_of_ble_eq_true rfl) d_X_promise_8 (by decide) h (fun s8 h => ?_)
  refine ww_aload_n 0 G d_X_promise_11 rfl rfl ?_
  refine ww_getr G fs_X_38 (by decide) d_X_promise_12 ?_
  refine ww_iload_n 1 G d_X_promise_15 rfl rfl ?_
  refine ww_aaload G ar_18 (by decide) d_X_promise_16 h (fun j16 hj16 h => ?_)
  refine ww_getf G fs_X_200 hj16 d_X_promise_17 h (fun v17 h => ?_)
  exact ww_iret G E d_X_promise_20 h
def lp_X_dropCopies_2 (x1 : Int32) (x2 : Int32) (k : Mem → RR) : Nat → Int32 → Mem → RR
  | 0, _, _ => none
  | n + 1, x3, s =>
    if ((12 : Int32)) ≤ x3 then (
      k s
    ) else (
      mm_jn (fun (y40 : Unit) s40 =>
        mm_al 12 x3 fun j45 =>
        mm_cV (f_S_freeAllOf j45 x1 s40) fun s47 =>
        lp_X_dropCopies_2 x1 x2 k n (x3 + (1 : Int32)) s47
      ) (fun r40 =>
      if x2 = 0 then (
        r40 () s
      ) else (
        mm_al 12 x3 fun j17 =>
        mm_cI (f_S_countOf j17 x1 s) fun v19 s19 =>
        if v19 ≤ 0 then (
          r40 () s19
        ) else (
          mm_al 12 x3 fun j30 =>
          mm_gf s19 7 j30 7 fun v32 =>
          mm_pf s19 7 j30 7 (v32 + ((1 : Int32))) fun s37 =>
          r40 () s37
        )
      ))
    )
set_option maxRecDepth 100000 in
set_option maxHeartbeats 4000000 in
theorem lp_X_dropCopies_2_ok {K : KK} {Γ : Cx} {o : Oc} {q : Mem} (x1 : Int32) (x2 : Int32)  (k : Mem → RR) (G : Good K Γ b_X_dropCopies "VillageMail" 4 3 64) (E : Ends K Γ none o q)
    (Kx : ∀  (s : Mem), k s = some (o, q) → WW K Γ 0 s 56 [] []) :
    ∀ (n : Nat) (x3 : Int32) (s : Mem), lp_X_dropCopies_2 x1 x2 k n x3 s = some (o, q) → WW K Γ 0 s 2 [(0, .ref (aa K 0 0)), (1, .int x1), (2, .int x2), (3, .int x3)] [] := by
  intro n
  induction n with
  | zero => intro _ _ h; exact nomatch h
  | succ n ih =>
    intro x3 s h
    unfold lp_X_dropCopies_2 at h
    refine ww_iload_n 3 G d_X_dropCopies_2 rfl rfl ?_
    refine ww_bipush (v := (12 : Int32)) G d_X_dropCopies_3 ib_12 ?_
    refine ww_icmpge (tgt := 56) G d_X_dropCopies_5 (by decide) h (fun h => ?_) (fun h => ?_)
    · skip
      refine ww_sub [] rfl ?_
      exact Kx  _ h
    · skip
      refine ww_iload_n 2 G d_X_dropCopies_8 rfl rfl ?_
      refine ww_jn h (fun (y40 : Unit) (s40 : Mem) => WW K Γ 0 s40 40 [(0, .ref (aa K 0 0)), (1, .int x1), (2, .int x2), (3, .int x3)] []) (fun y40 s40 h => ?_) (fun r40 J40 h => ?_)
      · skip
        refine ww_aload_n 0 G d_X_dropCopies_40 rfl rfl ?_
        refine ww_getr G fs_X_22 (by decide) d_X_dropCopies_41 ?_
        refine ww_iload_n 3 G d_X_dropCopies_44 rfl rfl ?_
        refine ww_aaload G ar_6 (by decide) d_X_dropCopies_45 h (fun j45 hj45 h => ?_)
        refine ww_iload_n 1 G d_X_dropCopies_46 rfl rfl ?_
        refine ww_cvV (As := [_]) G E cs_X_250 hj45 (fun o q h => c_S_freeAllOf j45 x1 hj45 _ _ _ h) rfl rfl (Nat.le_of_ble_eq_true rfl) d_X_dropCopies_47 (by decide) h (fun s47 h => ?_)
        refine ww_iinc 3 (L' := [(3, _), (0, _), (1, _), (2, _)]) G d_X_dropCopies_50 rfl ic_1 (by decide) rfl ?_
        refine ww_goto (tgt := 2) G d_X_dropCopies_53 (by decide) ?_
        refine ww_sub [1, 2, 3, 0] rfl ?_
        exact ih _ _ h
      refine ww_ifeq (tgt := 40) G d_X_dropCopies_9 (by decide) h (fun h => ?_) (fun h => ?_)
      · skip
        exact J40 _ _ h
      · skip
        refine ww_aload_n 0 G d_X_dropCopies_12 rfl rfl ?_
        refine ww_getr G fs_X_22 (by decide) d_X_dropCopies_13 ?_
        refine ww_iload_n 3 G d_X_dropCopies_16 rfl rfl ?_
        refine ww_aaload G ar_6 (by decide) d_X_dropCopies_17 h (fun j17 hj17 h => ?_)
        refine ww_iload_n 1 G d_X_dropCopies_18 rfl rfl ?_
        refine ww_cvI (As := [_]) G E cs_X_234 hj17 (fun o q h => c_S_countOf j17 x1 hj17 _ _ _ h) rfl rfl (Nat.le_of_ble_eq_true rfl) d_X_dropCopies_19 (by decide) h (fun v19 s19 h => ?_)
        refine ww_ifle (tgt := 40) G d_X_dropCopies_22 (by decide) h (fun h => ?_) (fun h => ?_)
        · skip
          exact J40 _ _ h
        · skip
          refine ww_aload_n 0 G d_X_dropCopies_25 rfl rfl ?_
          refine ww_getr G fs_X_22 (by decide) d_X_dropCopies_26 ?_
          refine ww_iload_n 3 G d_X_dropCopies_29 rfl rfl ?_
          refine ww_aaload G ar_6 (by decide) d_X_dropCopies_30 h (fun j30 hj30 h => ?_)
          refine ww_dup G d_X_dropCopies_31 rfl ?_
          refine ww_getf G fs_X_247 hj30 d_X_dropCopies_32 h (fun v32 h => ?_)
          refine ww_iconst (v := (1 : Int32)) G d_X_dropCopies_35 ic_1 ?_
          refine ww_iadd G d_X_dropCopies_36 ?_
          refine ww_putf G fs_X_247 hj30 d_X_dropCopies_37 h (fun s37 h => ?_)
          exact J40 _ _ h
def f_X_dropCopies (x1 : Int32) (x2 : Int32) (s : Mem) : RR :=
  mm_lp (fun kk => lp_X_dropCopies_2 x1 x2 kk FU ((0 : Int32)) s) fun s2 =>
  mm_rv s2
set_option maxRecDepth 100000 in
set_option maxHeartbeats 4000000 in
theorem c_X_dropCopies {l : Launch} {K : KK} (x1 : Int32) (x2 : Int32)  (s : Mem) (o : Oc) (q : Mem) (h : f_X_dropCopies x1 x2 s = some (o, q)) : Ct l K y_X_dropCopies b_X_dropCopies 4 none 3 64 [.ref (aa K 0 0), .int x1, .int x2] s o q := by
  refine Ct_of (own := "VillageMail") (L := [(0, _), (1, _), (2, _)]) (by decide +kernel) rfl (Nat.le_of_ble_eq_true rfl) rfl (fun Γ G E => ?_)
  unfold f_X_dropCopies at h
  refine ww_iconst (v := (0 : Int32)) G d_X_dropCopies_0 ic_0 ?_
  refine ww_istore_n (L' := [(3, _), (0, _), (1, _), (2, _)]) G d_X_dropCopies_1 rfl (by decide) rfl ?_
  refine ww_sub [1, 2, 3, 0] rfl ?_
  refine lp_X_dropCopies_2_ok x1 x2 _ G E (fun s2 h => ?_) FU _ _ h
  exact ww_vret G E d_X_dropCopies_56 h
def lp_X_expireWhatIsDue_2  (k : Mem → RR) : Nat → Int32 → Mem → RR
  | 0, _, _ => none
  | n + 1, x1, s =>
    mm_gf s 0 0 7 fun v4 =>
    if v4 ≤ x1 then (
      k s
    ) else (
      mm_al 16 x1 fun j15 =>
      mm_gf s 19 j15 8 fun v18 =>
      if ¬ v18 = 0 then (
        lp_X_expireWhatIsDue_2 k n (x1 + (1 : Int32)) s
      ) else (
        mm_gf s 0 0 0 fun v25 =>
        mm_gf s 19 j15 4 fun v29 =>
        if (v25 - v29) < ((7200 : Int32)) then (
          lp_X_expireWhatIsDue_2 k n (x1 + (1 : Int32)) s
        ) else (
          mm_pz s 19 j15 8 ((1 : Int32)) fun s41 =>
          mm_gf s41 19 j15 1 fun v50 =>
          mm_al 12 v50 fun j53 =>
          mm_ld s41 11 j53 16 x1 fun v58 =>
          mm_jn (fun (y67 : Int32) s67 =>
            mm_pz s67 19 j15 9 y67 fun s67 =>
            mm_gf s67 19 j15 9 fun v73 =>
            mm_cV (f_X_dropCopies x1 v73 s67) fun s76 =>
            lp_X_expireWhatIsDue_2 k n (x1 + (1 : Int32)) s76
          ) (fun r67 =>
          if ¬ v58 = 0 then (
            r67 ((0 : Int32)) s41
          ) else (
            r67 ((1 : Int32)) s41
          ))
        )
      )
    )
set_option maxRecDepth 100000 in
set_option maxHeartbeats 4000000 in
theorem lp_X_expireWhatIsDue_2_ok {K : KK} {Γ : Cx} {o : Oc} {q : Mem}   (k : Mem → RR) (G : Good K Γ b_X_expireWhatIsDue "VillageMail" 3 4 87) (E : Ends K Γ none o q)
    (Kx : ∀  (s : Mem), k s = some (o, q) → WW K Γ 0 s 85 [] []) :
    ∀ (n : Nat) (x1 : Int32) (s : Mem), lp_X_expireWhatIsDue_2 k n x1 s = some (o, q) → WW K Γ 0 s 2 [(0, .ref (aa K 0 0)), (1, .int x1)] [] := by
  intro n
  induction n with
  | zero => intro _ _ h; exact nomatch h
  | succ n ih =>
    intro x1 s h
    unfold lp_X_expireWhatIsDue_2 at h
    refine ww_iload_n 1 G d_X_expireWhatIsDue_2 rfl rfl ?_
    refine ww_aload_n 0 G d_X_expireWhatIsDue_3 rfl rfl ?_
    refine ww_getf G fs_X_171 (by decide) d_X_expireWhatIsDue_4 h (fun v4 h => ?_)
    refine ww_icmpge (tgt := 85) G d_X_expireWhatIsDue_7 (by decide) h (fun h => ?_) (fun h => ?_)
    · skip
      refine ww_sub [] rfl ?_
      exact Kx  _ h
    · skip
      refine ww_aload_n 0 G d_X_expireWhatIsDue_10 rfl rfl ?_
      refine ww_getr G fs_X_38 (by decide) d_X_expireWhatIsDue_11 ?_
      refine ww_iload_n 1 G d_X_expireWhatIsDue_14 rfl rfl ?_
      refine ww_aaload G ar_18 (by decide) d_X_expireWhatIsDue_15 h (fun j15 hj15 h => ?_)
      refine ww_astore_n (L' := [(2, _), (0, _), (1, _)]) G d_X_expireWhatIsDue_16 rfl (by decide) rfl ?_
      refine ww_aload_n 0 G d_X_expireWhatIsDue_17 rfl rfl ?_
      refine ww_getf G fs_X_240 hj15 d_X_expireWhatIsDue_18 h (fun v18 h => ?_)
      refine ww_ifne (tgt := 79) G d_X_expireWhatIsDue_21 (by decide) h (fun h => ?_) (fun h => ?_)
      · skip
        refine ww_iinc 2 (L' := [(1, _), (2, _), (0, _)]) G d_X_expireWhatIsDue_79 rfl ic_1 (by decide) rfl ?_
        refine ww_goto (tgt := 2) G d_X_expireWhatIsDue_82 (by decide) ?_
        refine ww_sub [2, 0] rfl ?_
        exact ih _ _ h
      · skip
        refine ww_aload_n 1 G d_X_expireWhatIsDue_24 rfl rfl ?_
        refine ww_getf G fs_X_194 (by decide) d_X_expireWhatIsDue_25 h (fun v25 h => ?_)
        refine ww_aload_n 0 G d_X_expireWhatIsDue_28 rfl rfl ?_
        refine ww_getf G fs_X_197 hj15 d_X_expireWhatIsDue_29 h (fun v29 h => ?_)
        refine ww_isub G d_X_expireWhatIsDue_32 ?_
        refine ww_sipush (v := (7200 : Int32)) G d_X_expireWhatIsDue_33 is_7200 ?_
        refine ww_icmplt (tgt := 79) G d_X_expireWhatIsDue_36 (by decide) h (fun h => ?_) (fun h => ?_)
        · skip
          refine ww_iinc 2 (L' := [(1, _), (2, _), (0, _)]) G d_X_expireWhatIsDue_79 rfl ic_1 (by decide) rfl ?_
          refine ww_goto (tgt := 2) G d_X_expireWhatIsDue_82 (by decide) ?_
          refine ww_sub [2, 0] rfl ?_
          exact ih _ _ h
        · skip
          refine ww_aload_n 0 G d_X_expireWhatIsDue_39 rfl rfl ?_
          refine ww_iconst (v := (1 : Int32)) G d_X_expireWhatIsDue_40 ic_1 ?_
          refine ww_putz G fs_X_240 hj15 d_X_expireWhatIsDue_41 h (fun s41 h => ?_)
          refine ww_aload_n 0 G d_X_expireWhatIsDue_44 rfl rfl ?_
          refine ww_aload_n 1 G d_X_expireWhatIsDue_45 rfl rfl ?_
          refine ww_getr G fs_X_22 (by decide) d_X_expireWhatIsDue_46 ?_
          refine ww_aload_n 0 G d_X_expireWhatIsDue_49 rfl rfl ?_
          refine ww_getf G fs_X_185 hj15 d_X_expireWhatIsDue_50 h (fun v50 h => ?_)
          refine ww_aaload G ar_6 (by decide) d_X_expireWhatIsDue_53 h (fun j53 hj53 h => ?_)
          refine ww_getr G fs_X_227 hj53 d_X_expireWhatIsDue_54 ?_
          refine ww_iload_n 2 G d_X_expireWhatIsDue_57 rfl rfl ?_
          refine ww_iaload G ar_11 hj53 d_X_expireWhatIsDue_58 h (fun v58 h => ?_)
          refine ww_jn h (fun (y67 : Int32) (s67 : Mem) => WW K Γ 0 s67 67 [(0, .ref (aa K 0 0)), (1, .int x1), (2, .ref (aa K 19 j15))] [.int y67, .ref (aa K 19 j15)]) (fun y67 s67 h => ?_) (fun r67 J67 h => ?_)
          · skip
            refine ww_putz G fs_X_230 hj15 d_X_expireWhatIsDue_67 h (fun s67 h => ?_)
            refine ww_aload_n 0 G d_X_expireWhatIsDue_70 rfl rfl ?_
            refine ww_iload_n 1 G d_X_expireWhatIsDue_71 rfl rfl ?_
            refine ww_aload_n 2 G d_X_expireWhatIsDue_72 rfl rfl ?_
            refine ww_getf G fs_X_230 hj15 d_X_expireWhatIsDue_73 h (fun v73 h => ?_)
            refine ww_cvV (As := [_, _]) G E cs_X_243 (by decide) (fun o q h => c_X_dropCopies x1 v73 _ _ _ h) rfl rfl (Nat.le_of_ble_eq_true rfl) d_X_expireWhatIsDue_76 (by decide) h (fun s76 h => ?_)
            refine ww_iinc 1 (L' := [(1, _), (0, _), (2, _)]) G d_X_expireWhatIsDue_79 rfl ic_1 (by decide) rfl ?_
            refine ww_goto (tgt := 2) G d_X_expireWhatIsDue_82 (by decide) ?_
            refine ww_sub [1, 0] rfl ?_
            exact ih _ _ h
          refine ww_ifne (tgt := 66) G d_X_expireWhatIsDue_59 (by decide) h (fun h => ?_) (fun h => ?_)
          · skip
            refine ww_iconst (v := (0 : Int32)) G d_X_expireWhatIsDue_66 ic_0 ?_
            refine ww_sub [1, 2, 0] rfl ?_
            exact J67 _ _ h
          · skip
            refine ww_iconst (v := (1 : Int32)) G d_X_expireWhatIsDue_62 ic_1 ?_
            refine ww_goto (tgt := 67) G d_X_expireWhatIsDue_63 (by decide) ?_
            refine ww_sub [1, 2, 0] rfl ?_
            exact J67 _ _ h
def f_X_expireWhatIsDue  (s : Mem) : RR :=
  mm_lp (fun kk => lp_X_expireWhatIsDue_2 kk FU ((0 : Int32)) s) fun s2 =>
  mm_rv s2
set_option maxRecDepth 100000 in
set_option maxHeartbeats 4000000 in
theorem c_X_expireWhatIsDue {l : Launch} {K : KK}   (s : Mem) (o : Oc) (q : Mem) (h : f_X_expireWhatIsDue s = some (o, q)) : Ct l K y_X_expireWhatIsDue b_X_expireWhatIsDue 3 none 4 87 [.ref (aa K 0 0)] s o q := by
  refine Ct_of (own := "VillageMail") (L := [(0, _)]) (by decide +kernel) rfl (Nat.le_of_ble_eq_true rfl) rfl (fun Γ G E => ?_)
  unfold f_X_expireWhatIsDue at h
  refine ww_iconst (v := (0 : Int32)) G d_X_expireWhatIsDue_0 ic_0 ?_
  refine ww_istore_n (L' := [(1, _), (0, _)]) G d_X_expireWhatIsDue_1 rfl (by decide) rfl ?_
  refine ww_sub [1, 0] rfl ?_
  refine lp_X_expireWhatIsDue_2_ok _ G E (fun s2 h => ?_) FU _ _ h
  exact ww_vret G E d_X_expireWhatIsDue_85 h

def lp_M_settle_135 (x1 : Int32) (x2 : Int32) (x3 : Int32) (x6 : Int32) (x7 : Int32) (k : Mem → RR) : Nat → Int32 → Mem → RR
  | 0, _, _ => none
  | n + 1, x8, s =>
    if ((4 : Int32)) ≤ x8 then (
      k s
    ) else (
      mm_jn (fun (y176 : Int32) s176 =>
        mm_sz s176 60 0 128 ((((4 : Int32)) * x3) + x8) y176 fun s176 =>
        if x7 = 0 then (
          mm_sz s176 60 0 128 ((((64 : Int32)) + (((4 : Int32)) * x3)) + x8) ((0 : Int32)) fun s215 =>
          lp_M_settle_135 x1 x2 x3 x6 x7 k n (x8 + (1 : Int32)) s215
        ) else (
          mm_cI (f_M_at x2 x3 x8 s176) fun v203 s203 =>
          mm_ld s203 46 0 768 v203 fun v206 =>
          if v206 = 0 then (
            mm_sz s203 60 0 128 ((((64 : Int32)) + (((4 : Int32)) * x3)) + x8) ((0 : Int32)) fun s215 =>
            lp_M_settle_135 x1 x2 x3 x6 x7 k n (x8 + (1 : Int32)) s215
          ) else (
            mm_sz s203 60 0 128 ((((64 : Int32)) + (((4 : Int32)) * x3)) + x8) ((1 : Int32)) fun s215 =>
            lp_M_settle_135 x1 x2 x3 x6 x7 k n (x8 + (1 : Int32)) s215
          )
        )
      ) (fun r176 =>
      if x6 = 0 then (
        r176 ((0 : Int32)) s
      ) else (
        mm_cI (f_M_at x1 x3 x8 s) fun v164 s164 =>
        mm_ld s164 46 0 768 v164 fun v167 =>
        if v167 = 0 then (
          r176 ((0 : Int32)) s164
        ) else (
          r176 ((1 : Int32)) s164
        )
      ))
    )
set_option maxRecDepth 100000 in
set_option maxHeartbeats 4000000 in
theorem lp_M_settle_135_ok {K : KK} {Γ : Cx} {o : Oc} {q : Mem} (x1 : Int32) (x2 : Int32) (x3 : Int32) (x6 : Int32) (x7 : Int32)  (k : Mem → RR) (G : Good K Γ b_M_settle "VillageMailModel" 9 2 52) (E : Ends K Γ none o q)
    (Kx : ∀  (s : Mem), k s = some (o, q) → WW K Γ 0 s 222 [(0, .ref (aa K 30 0)), (1, .int x1), (2, .int x2), (3, .int x3)] []) :
    ∀ (n : Nat) (x8 : Int32) (s : Mem), lp_M_settle_135 x1 x2 x3 x6 x7 k n x8 s = some (o, q) → WW K Γ 0 s 135 [(0, .ref (aa K 30 0)), (1, .int x1), (2, .int x2), (3, .int x3), (6, .int x6), (7, .int x7), (8, .int x8)] [] := by
  intro n
  induction n with
  | zero => intro _ _ h; exact nomatch h
  | succ n ih =>
    intro x8 s h
    unfold lp_M_settle_135 at h
    refine ww_iload 6 G d_M_settle_135 rfl ?_
    refine ww_iconst (v := (4 : Int32)) G d_M_settle_137 ic_4 ?_
    refine ww_icmpge (tgt := 222) G d_M_settle_138 (by decide) h (fun h => ?_) (fun h => ?_)
    · skip
      refine ww_sub [0, 1, 2, 3] rfl ?_
      exact Kx  _ h
    · skip
      refine ww_aload_n 0 G d_M_settle_141 rfl rfl ?_
      refine ww_getr G fs_M_98 (by decide) d_M_settle_142 ?_
      refine ww_iconst (v := (4 : Int32)) G d_M_settle_145 ic_4 ?_
      refine ww_iload_n 3 G d_M_settle_146 rfl rfl ?_
      refine ww_imul G d_M_settle_147 ?_
      refine ww_iload 6 G d_M_settle_148 rfl ?_
      refine ww_iadd G d_M_settle_150 ?_
      refine ww_iload 4 G d_M_settle_151 rfl ?_
      refine ww_jn h (fun (y176 : Int32) (s176 : Mem) => WW K Γ 0 s176 176 [(0, .ref (aa K 30 0)), (1, .int x1), (2, .int x2), (3, .int x3), (6, .int x6), (7, .int x7), (8, .int x8)] [.int y176, .int ((((4 : Int32)) * x3) + x8), .ref (aa K 60 0)]) (fun y176 s176 h => ?_) (fun r176 J176 h => ?_)
      · skip
        refine ww_bastore G ar_60 (by decide) d_M_settle_176 h (fun s176 h => ?_)
        refine ww_aload_n 0 G d_M_settle_177 rfl rfl ?_
        refine ww_getr G fs_M_98 (by decide) d_M_settle_178 ?_
        refine ww_bipush (v := (64 : Int32)) G d_M_settle_181 ib_64 ?_
        refine ww_iconst (v := (4 : Int32)) G d_M_settle_183 ic_4 ?_
        refine ww_iload_n 3 G d_M_settle_184 rfl rfl ?_
        refine ww_imul G d_M_settle_185 ?_
        refine ww_iadd G d_M_settle_186 ?_
        refine ww_iload 6 G d_M_settle_187 rfl ?_
        refine ww_iadd G d_M_settle_189 ?_
        refine ww_iload 5 G d_M_settle_190 rfl ?_
        refine ww_ifeq (tgt := 214) G d_M_settle_192 (by decide) h (fun h => ?_) (fun h => ?_)
        · skip
          refine ww_iconst (v := (0 : Int32)) G d_M_settle_214 ic_0 ?_
          refine ww_bastore G ar_60 (by decide) d_M_settle_215 h (fun s215 h => ?_)
          refine ww_iinc 6 (L' := [(8, _), (0, _), (1, _), (2, _), (3, _), (6, _), (7, _)]) G d_M_settle_216 rfl ic_1 (by decide) rfl ?_
          refine ww_goto (tgt := 135) G d_M_settle_219 (by decide) ?_
          refine ww_sub [1, 2, 3, 4, 5, 6, 0] rfl ?_
          exact ih _ _ h
        · skip
          refine ww_aload_n 0 G d_M_settle_195 rfl rfl ?_
          refine ww_getr G fs_M_56 (by decide) d_M_settle_196 ?_
          refine ww_iload_n 2 G d_M_settle_199 rfl rfl ?_
          refine ww_iload_n 3 G d_M_settle_200 rfl rfl ?_
          refine ww_iload 6 G d_M_settle_201 rfl ?_
          refine ww_csI (As := [_, _, _]) G E cs_M_146 (fun o q h => c_M_at x2 x3 x8 _ _ _ h) rfl rfl (Nat.le_of_ble_eq_true rfl) d_M_settle_203 (by decide) h (fun v203 s203 h => ?_)
          refine ww_baload G ar_46 (by decide) d_M_settle_206 h (fun v206 h => ?_)
          refine ww_ifeq (tgt := 214) G d_M_settle_207 (by decide) h (fun h => ?_) (fun h => ?_)
          · skip
            refine ww_iconst (v := (0 : Int32)) G d_M_settle_214 ic_0 ?_
            refine ww_bastore G ar_60 (by decide) d_M_settle_215 h (fun s215 h => ?_)
            refine ww_iinc 6 (L' := [(8, _), (0, _), (1, _), (2, _), (3, _), (6, _), (7, _)]) G d_M_settle_216 rfl ic_1 (by decide) rfl ?_
            refine ww_goto (tgt := 135) G d_M_settle_219 (by decide) ?_
            refine ww_sub [1, 2, 3, 4, 5, 6, 0] rfl ?_
            exact ih _ _ h
          · skip
            refine ww_iconst (v := (1 : Int32)) G d_M_settle_210 ic_1 ?_
            refine ww_goto (tgt := 215) G d_M_settle_211 (by decide) ?_
            refine ww_bastore G ar_60 (by decide) d_M_settle_215 h (fun s215 h => ?_)
            refine ww_iinc 6 (L' := [(8, _), (0, _), (1, _), (2, _), (3, _), (6, _), (7, _)]) G d_M_settle_216 rfl ic_1 (by decide) rfl ?_
            refine ww_goto (tgt := 135) G d_M_settle_219 (by decide) ?_
            refine ww_sub [1, 2, 3, 4, 5, 6, 0] rfl ?_
            exact ih _ _ h
      refine ww_ifeq (tgt := 175) G d_M_settle_153 (by decide) h (fun h => ?_) (fun h => ?_)
      · skip
        refine ww_iconst (v := (0 : Int32)) G d_M_settle_175 ic_0 ?_
        exact J176 _ _ h
      · skip
        refine ww_aload_n 0 G d_M_settle_156 rfl rfl ?_
        refine ww_getr G fs_M_56 (by decide) d_M_settle_157 ?_
        refine ww_iload_n 1 G d_M_settle_160 rfl rfl ?_
        refine ww_iload_n 3 G d_M_settle_161 rfl rfl ?_
        refine ww_iload 6 G d_M_settle_162 rfl ?_
        refine ww_csI (As := [_, _, _]) G E cs_M_146 (fun o q h => c_M_at x1 x3 x8 _ _ _ h) rfl rfl (Nat.le_of_ble_eq_true rfl) d_M_settle_164 (by decide) h (fun v164 s164 h => ?_)
        refine ww_baload G ar_46 (by decide) d_M_settle_167 h (fun v167 h => ?_)
        refine ww_ifeq (tgt := 175) G d_M_settle_168 (by decide) h (fun h => ?_) (fun h => ?_)
        · skip
          refine ww_iconst (v := (0 : Int32)) G d_M_settle_175 ic_0 ?_
          exact J176 _ _ h
        · skip
          refine ww_iconst (v := (1 : Int32)) G d_M_settle_171 ic_1 ?_
          refine ww_goto (tgt := 176) G d_M_settle_172 (by decide) ?_
          exact J176 _ _ h
def lp_M_settle_2 (x1 : Int32) (x2 : Int32) (k : Mem → RR) : Nat → Int32 → Mem → RR
  | 0, _, _ => none
  | n + 1, x3, s =>
    mm_gf s 30 0 7 fun v4 =>
    if v4 ≤ x3 then (
      k s
    ) else (
      mm_ld s 35 0 12 x2 fun v16 =>
      mm_ld s 39 0 16 x3 fun v22 =>
      mm_gf s 30 0 5 fun v25 =>
      mm_cI (f_M_arrival v16 v22 x2 (v25 + ((1 : Int32))) s) fun v30 s30 =>
      mm_ld s30 35 0 12 x2 fun v41 =>
      mm_ld s30 39 0 16 x3 fun v47 =>
      mm_gf s30 30 0 5 fun v50 =>
      mm_cI (f_M_arrival v41 v47 x1 v50 s30) fun v53 s53 =>
      mm_ld s53 50 0 192 ((((16 : Int32)) * x1) + x3) fun v68 =>
      mm_jn (fun (y97 : Int32) s97 =>
        mm_ld s97 39 0 16 x3 fun v104 =>
        mm_jn (fun (y130 : Int32) s130 =>
          mm_lp (fun kk => lp_M_settle_135 x1 x2 x3 y97 y130 kk FU ((0 : Int32)) s130) fun s135 =>
          lp_M_settle_2 x1 x2 k n (x3 + (1 : Int32)) s135
        ) (fun r130 =>
        if v104 = x2 then (
          r130 ((0 : Int32)) s97
        ) else (
          if v53 = ((-1 : Int32)) then (
            r130 ((0 : Int32)) s97
          ) else (
            mm_cI (f_M_earlier v30 v53 s97) fun v119 s119 =>
            if ¬ v119 = 0 then (
              r130 ((0 : Int32)) s119
            ) else (
              r130 ((1 : Int32)) s119
            )
          )
        ))
      ) (fun r97 =>
      if ¬ v68 = 0 then (
        r97 ((0 : Int32)) s53
      ) else (
        mm_ld s53 39 0 16 x3 fun v77 =>
        if v77 = x2 then (
          r97 ((1 : Int32)) s53
        ) else (
          mm_cI (f_M_earlier v30 v53 s53) fun v86 s86 =>
          if v86 = 0 then (
            r97 ((0 : Int32)) s86
          ) else (
            r97 ((1 : Int32)) s86
          )
        )
      ))
    )
set_option maxRecDepth 100000 in
set_option maxHeartbeats 4000000 in
theorem lp_M_settle_2_ok {K : KK} {Γ : Cx} {o : Oc} {q : Mem} (x1 : Int32) (x2 : Int32)  (k : Mem → RR) (G : Good K Γ b_M_settle "VillageMailModel" 9 2 52) (E : Ends K Γ none o q)
    (Kx : ∀  (s : Mem), k s = some (o, q) → WW K Γ 0 s 228 [] []) :
    ∀ (n : Nat) (x3 : Int32) (s : Mem), lp_M_settle_2 x1 x2 k n x3 s = some (o, q) → WW K Γ 0 s 2 [(0, .ref (aa K 30 0)), (1, .int x1), (2, .int x2), (3, .int x3)] [] := by
  intro n
  induction n with
  | zero => intro _ _ h; exact nomatch h
  | succ n ih =>
    intro x3 s h
    unfold lp_M_settle_2 at h
    refine ww_iload_n 3 G d_M_settle_2 rfl rfl ?_
    refine ww_aload_n 0 G d_M_settle_3 rfl rfl ?_
    refine ww_getf G fs_M_112 (by decide) d_M_settle_4 h (fun v4 h => ?_)
    refine ww_icmpge (tgt := 228) G d_M_settle_7 (by decide) h (fun h => ?_) (fun h => ?_)
    · skip
      refine ww_sub [] rfl ?_
      exact Kx  _ h
    · skip
      refine ww_aload_n 0 G d_M_settle_10 rfl rfl ?_
      refine ww_aload_n 0 G d_M_settle_11 rfl rfl ?_
      refine ww_getr G fs_M_22 (by decide) d_M_settle_12 ?_
      refine ww_iload_n 2 G d_M_settle_15 rfl rfl ?_
      refine ww_iaload G ar_35 (by decide) d_M_settle_16 h (fun v16 h => ?_)
      refine ww_aload_n 0 G d_M_settle_17 rfl rfl ?_
      refine ww_getr G fs_M_34 (by decide) d_M_settle_18 ?_
      refine ww_iload_n 3 G d_M_settle_21 rfl rfl ?_
      refine ww_iaload G ar_39 (by decide) d_M_settle_22 h (fun v22 h => ?_)
      refine ww_iload_n 2 G d_M_settle_23 rfl rfl ?_
      refine ww_aload_n 0 G d_M_settle_24 rfl rfl ?_
      refine ww_getf G fs_M_186 (by decide) d_M_settle_25 h (fun v25 h => ?_)
      refine ww_iconst (v := (1 : Int32)) G d_M_settle_28 ic_1 ?_
      refine ww_iadd G d_M_settle_29 ?_
      refine ww_cvI (As := [_, _, _, _]) G E cs_M_142 (by decide) (fun o q h => c_M_arrival v16 v22 x2 (v25 + ((1 : Int32))) _ _ _ h) rfl rfl (Nat.le_of_ble_eq_true rfl) d_M_settle_30 (by decide) h (fun v30 s30 h => ?_)
      refine ww_istore (L' := [(4, _), (0, _), (1, _), (2, _), (3, _)]) G d_M_settle_33 (by decide) rfl ?_
      refine ww_aload_n 1 G d_M_settle_35 rfl rfl ?_
      refine ww_aload_n 1 G d_M_settle_36 rfl rfl ?_
      refine ww_getr G fs_M_22 (by decide) d_M_settle_37 ?_
      refine ww_iload_n 3 G d_M_settle_40 rfl rfl ?_
      refine ww_iaload G ar_35 (by decide) d_M_settle_41 h (fun v41 h => ?_)
      refine ww_aload_n 1 G d_M_settle_42 rfl rfl ?_
      refine ww_getr G fs_M_34 (by decide) d_M_settle_43 ?_
      refine ww_iload_n 4 G d_M_settle_46 rfl rfl ?_
      refine ww_iaload G ar_39 (by decide) d_M_settle_47 h (fun v47 h => ?_)
      refine ww_iload_n 2 G d_M_settle_48 rfl rfl ?_
      refine ww_aload_n 1 G d_M_settle_49 rfl rfl ?_
      refine ww_getf G fs_M_186 (by decide) d_M_settle_50 h (fun v50 h => ?_)
      refine ww_cvI (As := [_, _, _, _]) G E cs_M_142 (by decide) (fun o q h => c_M_arrival v41 v47 x1 v50 _ _ _ h) rfl rfl (Nat.le_of_ble_eq_true rfl) d_M_settle_53 (by decide) h (fun v53 s53 h => ?_)
      refine ww_istore (L' := [(5, _), (4, _), (0, _), (1, _), (2, _), (3, _)]) G d_M_settle_56 (by decide) rfl ?_
      refine ww_aload_n 2 G d_M_settle_58 rfl rfl ?_
      refine ww_getr G fs_M_68 (by decide) d_M_settle_59 ?_
      refine ww_bipush (v := (16 : Int32)) G d_M_settle_62 ib_16 ?_
      refine ww_iload_n 3 G d_M_settle_64 rfl rfl ?_
      refine ww_imul G d_M_settle_65 ?_
      refine ww_iload_n 5 G d_M_settle_66 rfl rfl ?_
      refine ww_iadd G d_M_settle_67 ?_
      refine ww_iaload G ar_50 (by decide) d_M_settle_68 h (fun v68 h => ?_)
      refine ww_jn h (fun (y97 : Int32) (s97 : Mem) => WW K Γ 0 s97 97 [(0, .ref (aa K 30 0)), (1, .int x1), (2, .int x2), (3, .int x3), (4, .int v30), (5, .int v53)] [.int y97]) (fun y97 s97 h => ?_) (fun r97 J97 h => ?_)
      · skip
        refine ww_istore (L' := [(6, _), (0, _), (1, _), (2, _), (3, _), (4, _), (5, _)]) G d_M_settle_97 (by decide) rfl ?_
        refine ww_aload_n 1 G d_M_settle_99 rfl rfl ?_
        refine ww_getr G fs_M_34 (by decide) d_M_settle_100 ?_
        refine ww_iload_n 4 G d_M_settle_103 rfl rfl ?_
        refine ww_iaload G ar_39 (by decide) d_M_settle_104 h (fun v104 h => ?_)
        refine ww_iload_n 3 G d_M_settle_105 rfl rfl ?_
        refine ww_jn h (fun (y130 : Int32) (s130 : Mem) => WW K Γ 0 s130 130 [(0, .ref (aa K 30 0)), (1, .int x1), (2, .int x2), (3, .int x3), (6, .int y97)] [.int y130]) (fun y130 s130 h => ?_) (fun r130 J130 h => ?_)
        · skip
          refine ww_istore (L' := [(7, _), (0, _), (1, _), (2, _), (3, _), (6, _)]) G d_M_settle_130 (by decide) rfl ?_
          refine ww_iconst (v := (0 : Int32)) G d_M_settle_132 ic_0 ?_
          refine ww_istore (L' := [(8, _), (7, _), (0, _), (1, _), (2, _), (3, _), (6, _)]) G d_M_settle_133 (by decide) rfl ?_
          refine ww_sub [2, 3, 4, 5, 6, 1, 0] rfl ?_
          refine lp_M_settle_135_ok x1 x2 x3 y97 y130 _ G E (fun s135 h => ?_) FU _ _ h
          refine ww_iinc 3 (L' := [(3, _), (0, _), (1, _), (2, _)]) G d_M_settle_222 rfl ic_1 (by decide) rfl ?_
          refine ww_goto (tgt := 2) G d_M_settle_225 (by decide) ?_
          refine ww_sub [1, 2, 3, 0] rfl ?_
          exact ih _ _ h
        refine ww_icmpeq (tgt := 129) G d_M_settle_106 (by decide) h (fun h => ?_) (fun h => ?_)
        · skip
          refine ww_iconst (v := (0 : Int32)) G d_M_settle_129 ic_0 ?_
          refine ww_sub [1, 2, 3, 4, 0] rfl ?_
          exact J130 _ _ h
        · skip
          refine ww_iload 6 G d_M_settle_109 rfl ?_
          refine ww_iconst (v := (-1 : Int32)) G d_M_settle_111 ic_m1 ?_
          refine ww_icmpeq (tgt := 129) G d_M_settle_112 (by decide) h (fun h => ?_) (fun h => ?_)
          · skip
            refine ww_iconst (v := (0 : Int32)) G d_M_settle_129 ic_0 ?_
            refine ww_sub [1, 2, 3, 4, 0] rfl ?_
            exact J130 _ _ h
          · skip
            refine ww_iload 5 G d_M_settle_115 rfl ?_
            refine ww_iload 6 G d_M_settle_117 rfl ?_
            refine ww_csI (As := [_, _]) G E cs_M_195 (fun o q h => c_M_earlier v30 v53 _ _ _ h) rfl rfl (Nat.le_of_ble_eq_true rfl) d_M_settle_119 (by decide) h (fun v119 s119 h => ?_)
            refine ww_ifne (tgt := 129) G d_M_settle_122 (by decide) h (fun h => ?_) (fun h => ?_)
            · skip
              refine ww_iconst (v := (0 : Int32)) G d_M_settle_129 ic_0 ?_
              refine ww_sub [1, 2, 3, 4, 0] rfl ?_
              exact J130 _ _ h
            · skip
              refine ww_iconst (v := (1 : Int32)) G d_M_settle_125 ic_1 ?_
              refine ww_goto (tgt := 130) G d_M_settle_126 (by decide) ?_
              refine ww_sub [1, 2, 3, 4, 0] rfl ?_
              exact J130 _ _ h
      refine ww_ifne (tgt := 96) G d_M_settle_69 (by decide) h (fun h => ?_) (fun h => ?_)
      · skip
        refine ww_iconst (v := (0 : Int32)) G d_M_settle_96 ic_0 ?_
        refine ww_sub [2, 3, 4, 5, 1, 0] rfl ?_
        exact J97 _ _ h
      · skip
        refine ww_aload_n 2 G d_M_settle_72 rfl rfl ?_
        refine ww_getr G fs_M_34 (by decide) d_M_settle_73 ?_
        refine ww_iload_n 5 G d_M_settle_76 rfl rfl ?_
        refine ww_iaload G ar_39 (by decide) d_M_settle_77 h (fun v77 h => ?_)
        refine ww_iload_n 4 G d_M_settle_78 rfl rfl ?_
        refine ww_icmpeq (tgt := 92) G d_M_settle_79 (by decide) h (fun h => ?_) (fun h => ?_)
        · skip
          refine ww_iconst (v := (1 : Int32)) G d_M_settle_92 ic_1 ?_
          refine ww_goto (tgt := 97) G d_M_settle_93 (by decide) ?_
          refine ww_sub [2, 3, 4, 5, 1, 0] rfl ?_
          exact J97 _ _ h
        · skip
          refine ww_iload 1 G d_M_settle_82 rfl ?_
          refine ww_iload 0 G d_M_settle_84 rfl ?_
          refine ww_csI (As := [_, _]) G E cs_M_195 (fun o q h => c_M_earlier v30 v53 _ _ _ h) rfl rfl (Nat.le_of_ble_eq_true rfl) d_M_settle_86 (by decide) h (fun v86 s86 h => ?_)
          refine ww_ifeq (tgt := 96) G d_M_settle_89 (by decide) h (fun h => ?_) (fun h => ?_)
          · skip
            refine ww_iconst (v := (0 : Int32)) G d_M_settle_96 ic_0 ?_
            refine ww_sub [2, 3, 4, 5, 1, 0] rfl ?_
            exact J97 _ _ h
          · skip
            refine ww_iconst (v := (1 : Int32)) G d_M_settle_92 ic_1 ?_
            refine ww_goto (tgt := 97) G d_M_settle_93 (by decide) ?_
            refine ww_sub [2, 3, 4, 5, 1, 0] rfl ?_
            exact J97 _ _ h
def f_M_settle (x1 : Int32) (x2 : Int32) (s : Mem) : RR :=
  mm_lp (fun kk => lp_M_settle_2 x1 x2 kk FU ((0 : Int32)) s) fun s2 =>
  mm_rv s2
set_option maxRecDepth 100000 in
set_option maxHeartbeats 4000000 in
theorem c_M_settle {l : Launch} {K : KK} (x1 : Int32) (x2 : Int32)  (s : Mem) (o : Oc) (q : Mem) (h : f_M_settle x1 x2 s = some (o, q)) : Ct l K y_M_settle b_M_settle 9 none 2 52 [.ref (aa K 30 0), .int x1, .int x2] s o q := by
  refine Ct_of (own := "VillageMailModel") (L := [(0, _), (1, _), (2, _)]) (by decide +kernel) rfl (Nat.le_of_ble_eq_true rfl) rfl (fun Γ G E => ?_)
  unfold f_M_settle at h
  refine ww_iconst (v := (0 : Int32)) G d_M_settle_0 ic_0 ?_
  refine ww_istore_n (L' := [(3, _), (0, _), (1, _), (2, _)]) G d_M_settle_1 rfl (by decide) rfl ?_
  refine ww_sub [1, 2, 3, 0] rfl ?_
  refine lp_M_settle_2_ok x1 x2 _ G E (fun s2 h => ?_) FU _ _ h
  exact ww_vret G E d_M_settle_228 h
def lp_M_move_80 (x2 : Int32) (x3 : Int32) (x5 : Int32) (x6 : Int32) (k : Mem → RR) : Nat → Int32 → Mem → RR
  | 0, _, _ => none
  | n + 1, x7, s =>
    if ((8 : Int32)) ≤ x7 then (
      k s
    ) else (
      mm_ld s 49 0 6144 ((((8 : Int32)) * x5) + x7) fun v105 =>
      mm_st s 61 0 8 x7 v105 fun s106 =>
      mm_ld s106 49 0 6144 ((((8 : Int32)) * x5) + x7) fun v131 =>
      mm_st s106 49 0 6144 ((((8 : Int32)) * x6) + x7) v131 fun s132 =>
      lp_M_move_80 x2 x3 x5 x6 k n (x7 + (1 : Int32)) s132
    )
set_option maxRecDepth 100000 in
set_option maxHeartbeats 4000000 in
theorem lp_M_move_80_ok {K : KK} {Γ : Cx} {o : Oc} {q : Mem} (x2 : Int32) (x3 : Int32) (x5 : Int32) (x6 : Int32)  (k : Mem → RR) (G : Good K Γ b_M_move "VillageMailModel" 8 3 72) (E : Ends K Γ (some .boolean) o q)
    (Kx : ∀  (s : Mem), k s = some (o, q) → WW K Γ 0 s 139 [(0, .ref (aa K 30 0)), (2, .int x2), (3, .int x3), (5, .int x5), (6, .int x6)] []) :
    ∀ (n : Nat) (x7 : Int32) (s : Mem), lp_M_move_80 x2 x3 x5 x6 k n x7 s = some (o, q) → WW K Γ 0 s 80 [(0, .ref (aa K 30 0)), (2, .int x2), (3, .int x3), (5, .int x5), (6, .int x6), (7, .int x7)] [] := by
  intro n
  induction n with
  | zero => intro _ _ h; exact nomatch h
  | succ n ih =>
    intro x7 s h
    unfold lp_M_move_80 at h
    refine ww_iload 5 G d_M_move_80 rfl ?_
    refine ww_bipush (v := (8 : Int32)) G d_M_move_82 ib_8 ?_
    refine ww_icmpge (tgt := 139) G d_M_move_84 (by decide) h (fun h => ?_) (fun h => ?_)
    · skip
      refine ww_sub [0, 1, 2, 3, 4] rfl ?_
      exact Kx  _ h
    · skip
      refine ww_aload_n 0 G d_M_move_87 rfl rfl ?_
      refine ww_getr G fs_M_101 (by decide) d_M_move_88 ?_
      refine ww_iload 5 G d_M_move_91 rfl ?_
      refine ww_aload_n 0 G d_M_move_93 rfl rfl ?_
      refine ww_getr G fs_M_65 (by decide) d_M_move_94 ?_
      refine ww_bipush (v := (8 : Int32)) G d_M_move_97 ib_8 ?_
      refine ww_iload 3 G d_M_move_99 rfl ?_
      refine ww_imul G d_M_move_101 ?_
      refine ww_iload 5 G d_M_move_102 rfl ?_
      refine ww_iadd G d_M_move_104 ?_
      refine ww_iaload G ar_49 (by decide) d_M_move_105 h (fun v105 h => ?_)
      refine ww_iastore G ar_61 (by decide) d_M_move_106 h (fun s106 h => ?_)
      refine ww_aload_n 0 G d_M_move_107 rfl rfl ?_
      refine ww_getr G fs_M_65 (by decide) d_M_move_108 ?_
      refine ww_bipush (v := (8 : Int32)) G d_M_move_111 ib_8 ?_
      refine ww_iload 4 G d_M_move_113 rfl ?_
      refine ww_imul G d_M_move_115 ?_
      refine ww_iload 5 G d_M_move_116 rfl ?_
      refine ww_iadd G d_M_move_118 ?_
      refine ww_aload_n 0 G d_M_move_119 rfl rfl ?_
      refine ww_getr G fs_M_65 (by decide) d_M_move_120 ?_
      refine ww_bipush (v := (8 : Int32)) G d_M_move_123 ib_8 ?_
      refine ww_iload 3 G d_M_move_125 rfl ?_
      refine ww_imul G d_M_move_127 ?_
      refine ww_iload 5 G d_M_move_128 rfl ?_
      refine ww_iadd G d_M_move_130 ?_
      refine ww_iaload G ar_49 (by decide) d_M_move_131 h (fun v131 h => ?_)
      refine ww_iastore G ar_49 (by decide) d_M_move_132 h (fun s132 h => ?_)
      refine ww_iinc 5 (L' := [(7, _), (0, _), (2, _), (3, _), (5, _), (6, _)]) G d_M_move_133 rfl ic_1 (by decide) rfl ?_
      refine ww_goto (tgt := 80) G d_M_move_136 (by decide) ?_
      refine ww_sub [1, 2, 3, 4, 5, 0] rfl ?_
      exact ih _ _ h
def f_M_move (x1 : Int32) (x2 : Int32) (x3 : Int32) (x4 : Int32) (s : Mem) : RR :=
  mm_cI (f_M_at x1 x3 x4 s) fun v4 s4 =>
  mm_cI (f_M_at x2 x3 x4 s4) fun v13 s13 =>
  mm_ld s13 46 0 768 v4 fun v24 =>
  if v24 = 0 then (
    mm_rz ((0 : Int32)) s13
  ) else (
    mm_ld s13 46 0 768 v13 fun v34 =>
    if v34 = 0 then (
      mm_cI (f_M_room x2 s13) fun v42 s42 =>
      if ¬ v42 = 0 then (
        mm_pf s42 30 0 35 v4 fun s63 =>
        mm_ld s63 47 0 768 v4 fun v73 =>
        mm_pf s63 30 0 36 v73 fun s74 =>
        mm_lp (fun kk => lp_M_move_80 x2 x3 v4 v13 kk FU ((0 : Int32)) s74) fun s80 =>
        mm_sz s80 46 0 768 v13 ((1 : Int32)) fun s146 =>
        mm_ld s146 47 0 768 v4 fun v159 =>
        mm_st s146 47 0 768 v13 (v159 + ((1 : Int32))) fun s162 =>
        mm_ld s162 47 0 768 v13 fun v175 =>
        mm_st s162 48 0 768 v13 v175 fun s176 =>
        mm_ld s176 47 0 768 v13 fun v186 =>
        mm_cV (f_M_hear v4 v186 s176) fun s187 =>
        mm_ld s187 39 0 16 x3 fun v195 =>
        if ¬ v195 = x2 then (
          mm_rz ((1 : Int32)) s187
        ) else (
          mm_cV (f_M_lookAt x3 s187) fun s202 =>
          mm_rz ((1 : Int32)) s202
        )
      ) else (
        mm_ld s42 52 0 12 x2 fun v54 =>
        mm_st s42 52 0 12 x2 (v54 + ((1 : Int32))) fun s57 =>
        mm_rz ((0 : Int32)) s57
      )
    ) else (
      mm_rz ((0 : Int32)) s13
    )
  )
set_option maxRecDepth 100000 in
set_option maxHeartbeats 4000000 in
theorem c_M_move {l : Launch} {K : KK} (x1 : Int32) (x2 : Int32) (x3 : Int32) (x4 : Int32)  (s : Mem) (o : Oc) (q : Mem) (h : f_M_move x1 x2 x3 x4 s = some (o, q)) : Ct l K y_M_move b_M_move 8 (some .boolean) 3 72 [.ref (aa K 30 0), .int x1, .int x2, .int x3, .int x4] s o q := by
  refine Ct_of (own := "VillageMailModel") (L := [(0, _), (1, _), (2, _), (3, _), (4, _)]) (by decide +kernel) rfl (Nat.le_of_ble_eq_true rfl) rfl (fun Γ G E => ?_)
  unfold f_M_move at h
  refine ww_iload_n 1 G d_M_move_0 rfl rfl ?_
  refine ww_iload_n 3 G d_M_move_1 rfl rfl ?_
  refine ww_iload 4 G d_M_move_2 rfl ?_
  refine ww_csI (As := [_, _, _]) G E cs_M_146 (fun o q h => c_M_at x1 x3 x4 _ _ _ h) rfl rfl (Nat.le_of_ble_eq_true rfl) d_M_move_4 (by decide) h (fun v4 s4 h => ?_)
  refine ww_istore (L' := [(5, _), (0, _), (1, _), (2, _), (3, _), (4, _)]) G d_M_move_7 (by decide) rfl ?_
  refine ww_iload_n 3 G d_M_move_9 rfl rfl ?_
  refine ww_iload_n 4 G d_M_move_10 rfl rfl ?_
  refine ww_iload 5 G d_M_move_11 rfl ?_
  refine ww_csI (As := [_, _, _]) G E cs_M_146 (fun o q h => c_M_at x2 x3 x4 _ _ _ h) rfl rfl (Nat.le_of_ble_eq_true rfl) d_M_move_13 (by decide) h (fun v13 s13 h => ?_)
  refine ww_istore (L' := [(6, _), (5, _), (0, _), (1, _), (2, _), (3, _), (4, _)]) G d_M_move_16 (by decide) rfl ?_
  refine ww_aload_n 2 G d_M_move_18 rfl rfl ?_
  refine ww_getr G fs_M_56 (by decide) d_M_move_19 ?_
  refine ww_iload 1 G d_M_move_22 rfl ?_
  refine ww_baload G ar_46 (by decide) d_M_move_24 h (fun v24 h => ?_)
  refine ww_ifeq (tgt := 38) G d_M_move_25 (by decide) h (fun h => ?_) (fun h => ?_)
  · skip
    refine ww_iconst (v := (0 : Int32)) G d_M_move_38 ic_0 ?_
    exact ww_zret G E d_M_move_39 h
  · skip
    refine ww_aload_n 2 G d_M_move_28 rfl rfl ?_
    refine ww_getr G fs_M_56 (by decide) d_M_move_29 ?_
    refine ww_iload 0 G d_M_move_32 rfl ?_
    refine ww_baload G ar_46 (by decide) d_M_move_34 h (fun v34 h => ?_)
    refine ww_ifeq (tgt := 40) G d_M_move_35 (by decide) h (fun h => ?_) (fun h => ?_)
    · skip
      refine ww_aload_n 2 G d_M_move_40 rfl rfl ?_
      refine ww_iload_n 4 G d_M_move_41 rfl rfl ?_
      refine ww_cvI (As := [_]) G E cs_M_183 (by decide) (fun o q h => c_M_room x2 _ _ _ h) rfl rfl (Nat.le_of_ble_eq_true rfl) d_M_move_42 (by decide) h (fun v42 s42 h => ?_)
      refine ww_ifne (tgt := 60) G d_M_move_45 (by decide) h (fun h => ?_) (fun h => ?_)
      · skip
        refine ww_aload_n 2 G d_M_move_60 rfl rfl ?_
        refine ww_iload 1 G d_M_move_61 rfl ?_
        refine ww_putf G fs_M_198 (by decide) d_M_move_63 h (fun s63 h => ?_)
        refine ww_aload_n 2 G d_M_move_66 rfl rfl ?_
        refine ww_aload_n 2 G d_M_move_67 rfl rfl ?_
        refine ww_getr G fs_M_59 (by decide) d_M_move_68 ?_
        refine ww_iload 1 G d_M_move_71 rfl ?_
        refine ww_iaload G ar_47 (by decide) d_M_move_73 h (fun v73 h => ?_)
        refine ww_putf G fs_M_201 (by decide) d_M_move_74 h (fun s74 h => ?_)
        refine ww_iconst (v := (0 : Int32)) G d_M_move_77 ic_0 ?_
        refine ww_istore (L' := [(7, _), (6, _), (5, _), (0, _), (1, _), (2, _), (3, _), (4, _)]) G d_M_move_78 (by decide) rfl ?_
        refine ww_sub [3, 5, 6, 2, 1, 0] rfl ?_
        refine lp_M_move_80_ok x2 x3 v4 v13 _ G E (fun s80 h => ?_) FU _ _ h
        refine ww_aload_n 0 G d_M_move_139 rfl rfl ?_
        refine ww_getr G fs_M_56 (by decide) d_M_move_140 ?_
        refine ww_iload 4 G d_M_move_143 rfl ?_
        refine ww_iconst (v := (1 : Int32)) G d_M_move_145 ic_1 ?_
        refine ww_bastore G ar_46 (by decide) d_M_move_146 h (fun s146 h => ?_)
        refine ww_aload_n 0 G d_M_move_147 rfl rfl ?_
        refine ww_getr G fs_M_59 (by decide) d_M_move_148 ?_
        refine ww_iload 4 G d_M_move_151 rfl ?_
        refine ww_aload_n 0 G d_M_move_153 rfl rfl ?_
        refine ww_getr G fs_M_59 (by decide) d_M_move_154 ?_
        refine ww_iload 3 G d_M_move_157 rfl ?_
        refine ww_iaload G ar_47 (by decide) d_M_move_159 h (fun v159 h => ?_)
        refine ww_iconst (v := (1 : Int32)) G d_M_move_160 ic_1 ?_
        refine ww_iadd G d_M_move_161 ?_
        refine ww_iastore G ar_47 (by decide) d_M_move_162 h (fun s162 h => ?_)
        refine ww_aload_n 0 G d_M_move_163 rfl rfl ?_
        refine ww_getr G fs_M_62 (by decide) d_M_move_164 ?_
        refine ww_iload 4 G d_M_move_167 rfl ?_
        refine ww_aload_n 0 G d_M_move_169 rfl rfl ?_
        refine ww_getr G fs_M_59 (by decide) d_M_move_170 ?_
        refine ww_iload 4 G d_M_move_173 rfl ?_
        refine ww_iaload G ar_47 (by decide) d_M_move_175 h (fun v175 h => ?_)
        refine ww_iastore G ar_48 (by decide) d_M_move_176 h (fun s176 h => ?_)
        refine ww_aload_n 0 G d_M_move_177 rfl rfl ?_
        refine ww_iload 3 G d_M_move_178 rfl ?_
        refine ww_aload_n 0 G d_M_move_180 rfl rfl ?_
        refine ww_getr G fs_M_59 (by decide) d_M_move_181 ?_
        refine ww_iload 4 G d_M_move_184 rfl ?_
        refine ww_iaload G ar_47 (by decide) d_M_move_186 h (fun v186 h => ?_)
        refine ww_cvV (As := [_, _]) G E cs_M_192 (by decide) (fun o q h => c_M_hear v4 v186 _ _ _ h) rfl rfl (Nat.le_of_ble_eq_true rfl) d_M_move_187 (by decide) h (fun s187 h => ?_)
        refine ww_aload_n 0 G d_M_move_190 rfl rfl ?_
        refine ww_getr G fs_M_34 (by decide) d_M_move_191 ?_
        refine ww_iload_n 2 G d_M_move_194 rfl rfl ?_
        refine ww_iaload G ar_39 (by decide) d_M_move_195 h (fun v195 h => ?_)
        refine ww_iload_n 1 G d_M_move_196 rfl rfl ?_
        refine ww_icmpne (tgt := 205) G d_M_move_197 (by decide) h (fun h => ?_) (fun h => ?_)
        · skip
          refine ww_iconst (v := (1 : Int32)) G d_M_move_205 ic_1 ?_
          exact ww_zret G E d_M_move_206 h
        · skip
          refine ww_aload_n 0 G d_M_move_200 rfl rfl ?_
          refine ww_iload_n 2 G d_M_move_201 rfl rfl ?_
          refine ww_cvV (As := [_]) G E cs_M_173 (by decide) (fun o q h => c_M_lookAt x3 _ _ _ h) rfl rfl (Nat.le_of_ble_eq_true rfl) d_M_move_202 (by decide) h (fun s202 h => ?_)
          refine ww_iconst (v := (1 : Int32)) G d_M_move_205 ic_1 ?_
          exact ww_zret G E d_M_move_206 h
      · skip
        refine ww_aload_n 2 G d_M_move_48 rfl rfl ?_
        refine ww_getr G fs_M_74 (by decide) d_M_move_49 ?_
        refine ww_iload_n 4 G d_M_move_52 rfl rfl ?_
        refine ww_dup2 G d_M_move_53 rfl rfl ?_
        refine ww_iaload G ar_52 (by decide) d_M_move_54 h (fun v54 h => ?_)
        refine ww_iconst (v := (1 : Int32)) G d_M_move_55 ic_1 ?_
        refine ww_iadd G d_M_move_56 ?_
        refine ww_iastore G ar_52 (by decide) d_M_move_57 h (fun s57 h => ?_)
        refine ww_iconst (v := (0 : Int32)) G d_M_move_58 ic_0 ?_
        exact ww_zret G E d_M_move_59 h
    · skip
      refine ww_iconst (v := (0 : Int32)) G d_M_move_38 ic_0 ?_
      exact ww_zret G E d_M_move_39 h

def lp_M_post_181 (x1 : Int32) (x2 : Int32) (x6 : Int32) (k : Mem → RR) : Nat → Int32 → Mem → RR
  | 0, _, _ => none
  | n + 1, x7, s =>
    mm_gf s 30 0 30 fun v184 =>
    if v184 ≤ x7 then (
      k s
    ) else (
      mm_ld s 42 0 16 x6 fun v202 =>
      mm_cI (f_M_turned v202 s) fun v203 s203 =>
      mm_ld s203 57 0 32 x7 fun v212 =>
      mm_st s203 42 0 16 x6 (v203 ^^^ v212) fun s214 =>
      mm_cI (f_M_at x1 x6 (x7 / ((8 : Int32))) s214) fun v223 s223 =>
      mm_sz s223 46 0 768 v223 ((1 : Int32)) fun s235 =>
      mm_st s235 47 0 768 v223 ((0 : Int32)) fun s243 =>
      mm_ld s243 57 0 32 x7 fun v265 =>
      mm_st s243 49 0 6144 ((((8 : Int32)) * v223) + (mm_irem x7 ((8 : Int32)))) v265 fun s266 =>
      lp_M_post_181 x1 x2 x6 k n (x7 + (1 : Int32)) s266
    )
set_option maxRecDepth 100000 in
set_option maxHeartbeats 4000000 in
theorem lp_M_post_181_ok {K : KK} {Γ : Cx} {o : Oc} {q : Mem} (x1 : Int32) (x2 : Int32) (x6 : Int32)  (k : Mem → RR) (G : Good K Γ b_M_post "VillageMailModel" 9 3 72) (E : Ends K Γ (some .int) o q)
    (Kx : ∀  (s : Mem), k s = some (o, q) → WW K Γ 0 s 273 [(0, .ref (aa K 30 0)), (1, .int x1), (2, .int x2), (6, .int x6)] []) :
    ∀ (n : Nat) (x7 : Int32) (s : Mem), lp_M_post_181 x1 x2 x6 k n x7 s = some (o, q) → WW K Γ 0 s 181 [(0, .ref (aa K 30 0)), (1, .int x1), (2, .int x2), (6, .int x6), (7, .int x7)] [] := by
  intro n
  induction n with
  | zero => intro _ _ h; exact nomatch h
  | succ n ih =>
    intro x7 s h
    unfold lp_M_post_181 at h
    refine ww_iload 4 G d_M_post_181 rfl ?_
    refine ww_aload_n 0 G d_M_post_183 rfl rfl ?_
    refine ww_getf G fs_M_180 (by decide) d_M_post_184 h (fun v184 h => ?_)
    refine ww_icmpge (tgt := 273) G d_M_post_187 (by decide) h (fun h => ?_) (fun h => ?_)
    · skip
      refine ww_sub [0, 1, 2, 3] rfl ?_
      exact Kx  _ h
    · skip
      refine ww_aload_n 0 G d_M_post_190 rfl rfl ?_
      refine ww_getr G fs_M_43 (by decide) d_M_post_191 ?_
      refine ww_iload 3 G d_M_post_194 rfl ?_
      refine ww_aload_n 0 G d_M_post_196 rfl rfl ?_
      refine ww_getr G fs_M_43 (by decide) d_M_post_197 ?_
      refine ww_iload 3 G d_M_post_200 rfl ?_
      refine ww_iaload G ar_42 (by decide) d_M_post_202 h (fun v202 h => ?_)
      refine ww_csI (As := [_]) G E cs_M_157 (fun o q h => c_M_turned v202 _ _ _ h) rfl rfl (Nat.le_of_ble_eq_true rfl) d_M_post_203 (by decide) h (fun v203 s203 h => ?_)
      refine ww_aload_n 0 G d_M_post_206 rfl rfl ?_
      refine ww_getr G fs_M_89 (by decide) d_M_post_207 ?_
      refine ww_iload 4 G d_M_post_210 rfl ?_
      refine ww_iaload G ar_57 (by decide) d_M_post_212 h (fun v212 h => ?_)
      refine ww_ixor G d_M_post_213 ?_
      refine ww_iastore G ar_42 (by decide) d_M_post_214 h (fun s214 h => ?_)
      refine ww_iload_n 1 G d_M_post_215 rfl rfl ?_
      refine ww_iload 3 G d_M_post_216 rfl ?_
      refine ww_iload 4 G d_M_post_218 rfl ?_
      refine ww_bipush (v := (8 : Int32)) G d_M_post_220 ib_8 ?_
      refine ww_idiv G d_M_post_222 (by decide) ?_
      refine ww_csI (As := [_, _, _]) G E cs_M_146 (fun o q h => c_M_at x1 x6 (x7 / ((8 : Int32))) _ _ _ h) rfl rfl (Nat.le_of_ble_eq_true rfl) d_M_post_223 (by decide) h (fun v223 s223 h => ?_)
      refine ww_istore (L' := [(8, _), (0, _), (1, _), (2, _), (6, _), (7, _)]) G d_M_post_226 (by decide) rfl ?_
      refine ww_aload_n 1 G d_M_post_228 rfl rfl ?_
      refine ww_getr G fs_M_56 (by decide) d_M_post_229 ?_
      refine ww_iload 0 G d_M_post_232 rfl ?_
      refine ww_iconst (v := (1 : Int32)) G d_M_post_234 ic_1 ?_
      refine ww_bastore G ar_46 (by decide) d_M_post_235 h (fun s235 h => ?_)
      refine ww_aload_n 1 G d_M_post_236 rfl rfl ?_
      refine ww_getr G fs_M_59 (by decide) d_M_post_237 ?_
      refine ww_iload 0 G d_M_post_240 rfl ?_
      refine ww_iconst (v := (0 : Int32)) G d_M_post_242 ic_0 ?_
      refine ww_iastore G ar_47 (by decide) d_M_post_243 h (fun s243 h => ?_)
      refine ww_aload_n 1 G d_M_post_244 rfl rfl ?_
      refine ww_getr G fs_M_65 (by decide) d_M_post_245 ?_
      refine ww_bipush (v := (8 : Int32)) G d_M_post_248 ib_8 ?_
      refine ww_iload 0 G d_M_post_250 rfl ?_
      refine ww_imul G d_M_post_252 ?_
      refine ww_iload 5 G d_M_post_253 rfl ?_
      refine ww_bipush (v := (8 : Int32)) G d_M_post_255 ib_8 ?_
      refine ww_irem G d_M_post_257 (by decide) ?_
      refine ww_iadd G d_M_post_258 ?_
      refine ww_aload_n 1 G d_M_post_259 rfl rfl ?_
      refine ww_getr G fs_M_89 (by decide) d_M_post_260 ?_
      refine ww_iload 5 G d_M_post_263 rfl ?_
      refine ww_iaload G ar_57 (by decide) d_M_post_265 h (fun v265 h => ?_)
      refine ww_iastore G ar_49 (by decide) d_M_post_266 h (fun s266 h => ?_)
      refine ww_iinc 5 (L' := [(7, _), (8, _), (0, _), (1, _), (2, _), (6, _)]) G d_M_post_267 rfl ic_1 (by decide) rfl ?_
      refine ww_goto (tgt := 181) G d_M_post_270 (by decide) ?_
      refine ww_sub [2, 3, 4, 5, 0] rfl ?_
      exact ih _ _ h
def f_M_post (x1 : Int32) (x2 : Int32) (x3 : Int32) (x4 : Int32) (s : Mem) : RR :=
  mm_cI (f_M_isKiosk x1 s) fun v1 s1 =>
  mm_jn (fun (y43 : Int32) s43 =>
    mm_jn (fun (y87 : Int32) s87 =>
      mm_pf s87 30 0 31 y87 fun s87 =>
      mm_gf s87 30 0 31 fun v91 =>
      if v91 = 0 then (
        mm_gf s87 30 0 7 fun v100 =>
        mm_gf s87 30 0 7 fun v107 =>
        mm_pf s87 30 0 7 (v107 + ((1 : Int32))) fun s112 =>
        mm_gf s112 30 0 30 fun v122 =>
        mm_st s112 36 0 16 v100 v122 fun s125 =>
        mm_st s125 37 0 16 v100 x4 fun s134 =>
        mm_st s134 38 0 16 v100 x1 fun s142 =>
        mm_st s142 39 0 16 v100 x2 fun s150 =>
        mm_st s150 40 0 16 v100 x3 fun s158 =>
        mm_gf s158 30 0 5 fun v166 =>
        mm_st s158 41 0 16 v100 v166 fun s169 =>
        mm_st s169 42 0 16 v100 ((0 : Int32)) fun s177 =>
        mm_lp (fun kk => lp_M_post_181 x1 x2 v100 kk FU ((0 : Int32)) s177) fun s181 =>
        mm_pf s181 30 0 30 ((0 : Int32)) fun s275 =>
        mm_ld s275 35 0 12 x1 fun v290 =>
        mm_gf s275 30 0 5 fun v294 =>
        mm_cI (f_M_arrival v290 x2 x1 v294 s275) fun v297 s297 =>
        mm_st s297 43 0 16 v100 v297 fun s300 =>
        mm_cV (f_M_lookAt v100 s300) fun s304 =>
        mm_ri v100 s304
      ) else (
        mm_ri ((0 : Int32)) s87
      )
    ) (fun r87 =>
    if ¬ y43 = 0 then (
      mm_gf s43 30 0 7 fun v56 =>
      if v56 = ((16 : Int32)) then (
        r87 ((2 : Int32)) s43
      ) else (
        mm_cI (f_M_room x1 s43) fun v66 s66 =>
        mm_gf s66 30 0 30 fun v70 =>
        if ((v70 + ((7 : Int32))) / ((8 : Int32))) ≤ v66 then (
          r87 ((0 : Int32)) s66
        ) else (
          r87 ((2 : Int32)) s66
        )
      )
    ) else (
      r87 ((1 : Int32)) s43
    ))
  ) (fun r43 =>
  if v1 = 0 then (
    r43 ((0 : Int32)) s1
  ) else (
    mm_cI (f_M_isKiosk x2 s1) fun v8 s8 =>
    if v8 = 0 then (
      r43 ((0 : Int32)) s8
    ) else (
      mm_cI (f_M_upTo x3 ((4 : Int32)) s8) fun v16 s16 =>
      if v16 = 0 then (
        r43 ((0 : Int32)) s16
      ) else (
        mm_cI (f_M_upTo x4 ((2 : Int32)) s16) fun v25 s25 =>
        if v25 = 0 then (
          r43 ((0 : Int32)) s25
        ) else (
          mm_gf s25 30 0 30 fun v32 =>
          if v32 ≤ 0 then (
            r43 ((0 : Int32)) s25
          ) else (
            r43 ((1 : Int32)) s25
          )
        )
      )
    )
  ))
set_option maxRecDepth 100000 in
set_option maxHeartbeats 4000000 in
theorem c_M_post {l : Launch} {K : KK} (x1 : Int32) (x2 : Int32) (x3 : Int32) (x4 : Int32)  (s : Mem) (o : Oc) (q : Mem) (h : f_M_post x1 x2 x3 x4 s = some (o, q)) : Ct l K y_M_post b_M_post 9 (some .int) 3 72 [.ref (aa K 30 0), .int x1, .int x2, .int x3, .int x4] s o q := by
  refine Ct_of (own := "VillageMailModel") (L := [(0, _), (1, _), (2, _), (3, _), (4, _)]) (by decide +kernel) rfl (Nat.le_of_ble_eq_true rfl) rfl (fun Γ G E => ?_)
  unfold f_M_post at h
  refine ww_iload_n 1 G d_M_post_0 rfl rfl ?_
  refine ww_csI (As := [_]) G E cs_M_119 (fun o q h => c_M_isKiosk x1 _ _ _ h) rfl rfl (Nat.le_of_ble_eq_true rfl) d_M_post_1 (by decide) h (fun v1 s1 h => ?_)
  refine ww_jn h (fun (y43 : Int32) (s43 : Mem) => WW K Γ 0 s43 43 [(0, .ref (aa K 30 0)), (1, .int x1), (2, .int x2), (3, .int x3), (4, .int x4)] [.int y43]) (fun y43 s43 h => ?_) (fun r43 J43 h => ?_)
  · skip
    refine ww_istore (L' := [(5, _), (0, _), (1, _), (2, _), (3, _), (4, _)]) G d_M_post_43 (by decide) rfl ?_
    refine ww_aload_n 1 G d_M_post_45 rfl rfl ?_
    refine ww_iload 0 G d_M_post_46 rfl ?_
    refine ww_jn h (fun (y87 : Int32) (s87 : Mem) => WW K Γ 0 s87 87 [(0, .ref (aa K 30 0)), (1, .int x1), (2, .int x2), (3, .int x3), (4, .int x4)] [.int y87, .ref (aa K 30 0)]) (fun y87 s87 h => ?_) (fun r87 J87 h => ?_)
    · skip
      refine ww_putf G fs_M_104 (by decide) d_M_post_87 h (fun s87 h => ?_)
      refine ww_aload_n 0 G d_M_post_90 rfl rfl ?_
      refine ww_getf G fs_M_104 (by decide) d_M_post_91 h (fun v91 h => ?_)
      refine ww_ifeq (tgt := 99) G d_M_post_94 (by decide) h (fun h => ?_) (fun h => ?_)
      · skip
        refine ww_aload_n 0 G d_M_post_99 rfl rfl ?_
        refine ww_getf G fs_M_112 (by decide) d_M_post_100 h (fun v100 h => ?_)
        refine ww_istore (L' := [(6, _), (0, _), (1, _), (2, _), (3, _), (4, _)]) G d_M_post_103 (by decide) rfl ?_
        refine ww_aload_n 1 G d_M_post_105 rfl rfl ?_
        refine ww_dup G d_M_post_106 rfl ?_
        refine ww_getf G fs_M_112 (by decide) d_M_post_107 h (fun v107 h => ?_)
        refine ww_iconst (v := (1 : Int32)) G d_M_post_110 ic_1 ?_
        refine ww_iadd G d_M_post_111 ?_
        refine ww_putf G fs_M_112 (by decide) d_M_post_112 h (fun s112 h => ?_)
        refine ww_aload_n 1 G d_M_post_115 rfl rfl ?_
        refine ww_getr G fs_M_25 (by decide) d_M_post_116 ?_
        refine ww_iload 0 G d_M_post_119 rfl ?_
        refine ww_aload_n 1 G d_M_post_121 rfl rfl ?_
        refine ww_getf G fs_M_180 (by decide) d_M_post_122 h (fun v122 h => ?_)
        refine ww_iastore G ar_36 (by decide) d_M_post_125 h (fun s125 h => ?_)
        refine ww_aload_n 1 G d_M_post_126 rfl rfl ?_
        refine ww_getr G fs_M_28 (by decide) d_M_post_127 ?_
        refine ww_iload 0 G d_M_post_130 rfl ?_
        refine ww_iload 5 G d_M_post_132 rfl ?_
        refine ww_iastore G ar_37 (by decide) d_M_post_134 h (fun s134 h => ?_)
        refine ww_aload_n 1 G d_M_post_135 rfl rfl ?_
        refine ww_getr G fs_M_31 (by decide) d_M_post_136 ?_
        refine ww_iload 0 G d_M_post_139 rfl ?_
        refine ww_iload_n 2 G d_M_post_141 rfl rfl ?_
        refine ww_iastore G ar_38 (by decide) d_M_post_142 h (fun s142 h => ?_)
        refine ww_aload_n 1 G d_M_post_143 rfl rfl ?_
        refine ww_getr G fs_M_34 (by decide) d_M_post_144 ?_
        refine ww_iload 0 G d_M_post_147 rfl ?_
        refine ww_iload_n 3 G d_M_post_149 rfl rfl ?_
        refine ww_iastore G ar_39 (by decide) d_M_post_150 h (fun s150 h => ?_)
        refine ww_aload_n 1 G d_M_post_151 rfl rfl ?_
        refine ww_getr G fs_M_37 (by decide) d_M_post_152 ?_
        refine ww_iload 0 G d_M_post_155 rfl ?_
        refine ww_iload_n 4 G d_M_post_157 rfl rfl ?_
        refine ww_iastore G ar_40 (by decide) d_M_post_158 h (fun s158 h => ?_)
        refine ww_aload_n 1 G d_M_post_159 rfl rfl ?_
        refine ww_getr G fs_M_40 (by decide) d_M_post_160 ?_
        refine ww_iload 0 G d_M_post_163 rfl ?_
        refine ww_aload_n 1 G d_M_post_165 rfl rfl ?_
        refine ww_getf G fs_M_186 (by decide) d_M_post_166 h (fun v166 h => ?_)
        refine ww_iastore G ar_41 (by decide) d_M_post_169 h (fun s169 h => ?_)
        refine ww_aload_n 1 G d_M_post_170 rfl rfl ?_
        refine ww_getr G fs_M_43 (by decide) d_M_post_171 ?_
        refine ww_iload 0 G d_M_post_174 rfl ?_
        refine ww_iconst (v := (0 : Int32)) G d_M_post_176 ic_0 ?_
        refine ww_iastore G ar_42 (by decide) d_M_post_177 h (fun s177 h => ?_)
        refine ww_iconst (v := (0 : Int32)) G d_M_post_178 ic_0 ?_
        refine ww_istore (L' := [(7, _), (6, _), (0, _), (1, _), (2, _), (3, _), (4, _)]) G d_M_post_179 (by decide) rfl ?_
        refine ww_sub [2, 3, 4, 1, 0] rfl ?_
        refine lp_M_post_181_ok x1 x2 v100 _ G E (fun s181 h => ?_) FU _ _ h
        refine ww_aload_n 0 G d_M_post_273 rfl rfl ?_
        refine ww_iconst (v := (0 : Int32)) G d_M_post_274 ic_0 ?_
        refine ww_putf G fs_M_180 (by decide) d_M_post_275 h (fun s275 h => ?_)
        refine ww_aload_n 0 G d_M_post_278 rfl rfl ?_
        refine ww_getr G fs_M_46 (by decide) d_M_post_279 ?_
        refine ww_iload 3 G d_M_post_282 rfl ?_
        refine ww_aload_n 0 G d_M_post_284 rfl rfl ?_
        refine ww_aload_n 0 G d_M_post_285 rfl rfl ?_
        refine ww_getr G fs_M_22 (by decide) d_M_post_286 ?_
        refine ww_iload_n 1 G d_M_post_289 rfl rfl ?_
        refine ww_iaload G ar_35 (by decide) d_M_post_290 h (fun v290 h => ?_)
        refine ww_iload_n 2 G d_M_post_291 rfl rfl ?_
        refine ww_iload_n 1 G d_M_post_292 rfl rfl ?_
        refine ww_aload_n 0 G d_M_post_293 rfl rfl ?_
        refine ww_getf G fs_M_186 (by decide) d_M_post_294 h (fun v294 h => ?_)
        refine ww_cvI (As := [_, _, _, _]) G E cs_M_142 (by decide) (fun o q h => c_M_arrival v290 x2 x1 v294 _ _ _ h) rfl rfl (Nat.le_of_ble_eq_true rfl) d_M_post_297 (by decide) h (fun v297 s297 h => ?_)
        refine ww_iastore G ar_43 (by decide) d_M_post_300 h (fun s300 h => ?_)
        refine ww_aload_n 0 G d_M_post_301 rfl rfl ?_
        refine ww_iload 3 G d_M_post_302 rfl ?_
        refine ww_cvV (As := [_]) G E cs_M_173 (by decide) (fun o q h => c_M_lookAt v100 _ _ _ h) rfl rfl (Nat.le_of_ble_eq_true rfl) d_M_post_304 (by decide) h (fun s304 h => ?_)
        refine ww_iload 3 G d_M_post_307 rfl ?_
        exact ww_iret G E d_M_post_309 h
      · skip
        refine ww_iconst (v := (0 : Int32)) G d_M_post_97 ic_0 ?_
        exact ww_iret G E d_M_post_98 h
    refine ww_ifne (tgt := 55) G d_M_post_48 (by decide) h (fun h => ?_) (fun h => ?_)
    · skip
      refine ww_aload_n 1 G d_M_post_55 rfl rfl ?_
      refine ww_getf G fs_M_112 (by decide) d_M_post_56 h (fun v56 h => ?_)
      refine ww_bipush (v := (16 : Int32)) G d_M_post_59 ib_16 ?_
      refine ww_icmpeq (tgt := 82) G d_M_post_61 (by decide) h (fun h => ?_) (fun h => ?_)
      · skip
        refine ww_iconst (v := (2 : Int32)) G d_M_post_82 ic_2 ?_
        refine ww_goto (tgt := 87) G d_M_post_83 (by decide) ?_
        refine ww_sub [1, 2, 3, 4, 5] rfl ?_
        exact J87 _ _ h
      · skip
        refine ww_aload_n 1 G d_M_post_64 rfl rfl ?_
        refine ww_iload_n 2 G d_M_post_65 rfl rfl ?_
        refine ww_cvI (As := [_]) G E cs_M_183 (by decide) (fun o q h => c_M_room x1 _ _ _ h) rfl rfl (Nat.le_of_ble_eq_true rfl) d_M_post_66 (by decide) h (fun v66 s66 h => ?_)
        refine ww_aload_n 1 G d_M_post_69 rfl rfl ?_
        refine ww_getf G fs_M_180 (by decide) d_M_post_70 h (fun v70 h => ?_)
        refine ww_bipush (v := (7 : Int32)) G d_M_post_73 ib_7 ?_
        refine ww_iadd G d_M_post_75 ?_
        refine ww_bipush (v := (8 : Int32)) G d_M_post_76 ib_8 ?_
        refine ww_idiv G d_M_post_78 (by decide) ?_
        refine ww_icmpge (tgt := 86) G d_M_post_79 (by decide) h (fun h => ?_) (fun h => ?_)
        · skip
          refine ww_iconst (v := (0 : Int32)) G d_M_post_86 ic_0 ?_
          refine ww_sub [1, 2, 3, 4, 5] rfl ?_
          exact J87 _ _ h
        · skip
          refine ww_iconst (v := (2 : Int32)) G d_M_post_82 ic_2 ?_
          refine ww_goto (tgt := 87) G d_M_post_83 (by decide) ?_
          refine ww_sub [1, 2, 3, 4, 5] rfl ?_
          exact J87 _ _ h
    · skip
      refine ww_iconst (v := (1 : Int32)) G d_M_post_51 ic_1 ?_
      refine ww_goto (tgt := 87) G d_M_post_52 (by decide) ?_
      refine ww_sub [1, 2, 3, 4, 5] rfl ?_
      exact J87 _ _ h
  refine ww_ifeq (tgt := 42) G d_M_post_4 (by decide) h (fun h => ?_) (fun h => ?_)
  · skip
    refine ww_iconst (v := (0 : Int32)) G d_M_post_42 ic_0 ?_
    exact J43 _ _ h
  · skip
    refine ww_iload_n 2 G d_M_post_7 rfl rfl ?_
    refine ww_csI (As := [_]) G E cs_M_119 (fun o q h => c_M_isKiosk x2 _ _ _ h) rfl rfl (Nat.le_of_ble_eq_true rfl) d_M_post_8 (by decide) h (fun v8 s8 h => ?_)
    refine ww_ifeq (tgt := 42) G d_M_post_11 (by decide) h (fun h => ?_) (fun h => ?_)
    · skip
      refine ww_iconst (v := (0 : Int32)) G d_M_post_42 ic_0 ?_
      exact J43 _ _ h
    · skip
      refine ww_iload_n 3 G d_M_post_14 rfl rfl ?_
      refine ww_iconst (v := (4 : Int32)) G d_M_post_15 ic_4 ?_
      refine ww_csI (As := [_, _]) G E cs_M_108 (fun o q h => c_M_upTo x3 ((4 : Int32)) _ _ _ h) rfl rfl (Nat.le_of_ble_eq_true rfl) d_M_post_16 (by decide) h (fun v16 s16 h => ?_)
      refine ww_ifeq (tgt := 42) G d_M_post_19 (by decide) h (fun h => ?_) (fun h => ?_)
      · skip
        refine ww_iconst (v := (0 : Int32)) G d_M_post_42 ic_0 ?_
        exact J43 _ _ h
      · skip
        refine ww_iload 4 G d_M_post_22 rfl ?_
        refine ww_iconst (v := (2 : Int32)) G d_M_post_24 ic_2 ?_
        refine ww_csI (As := [_, _]) G E cs_M_108 (fun o q h => c_M_upTo x4 ((2 : Int32)) _ _ _ h) rfl rfl (Nat.le_of_ble_eq_true rfl) d_M_post_25 (by decide) h (fun v25 s25 h => ?_)
        refine ww_ifeq (tgt := 42) G d_M_post_28 (by decide) h (fun h => ?_) (fun h => ?_)
        · skip
          refine ww_iconst (v := (0 : Int32)) G d_M_post_42 ic_0 ?_
          exact J43 _ _ h
        · skip
          refine ww_aload_n 0 G d_M_post_31 rfl rfl ?_
          refine ww_getf G fs_M_180 (by decide) d_M_post_32 h (fun v32 h => ?_)
          refine ww_ifle (tgt := 42) G d_M_post_35 (by decide) h (fun h => ?_) (fun h => ?_)
          · skip
            refine ww_iconst (v := (0 : Int32)) G d_M_post_42 ic_0 ?_
            exact J43 _ _ h
          · skip
            refine ww_iconst (v := (1 : Int32)) G d_M_post_38 ic_1 ?_
            refine ww_goto (tgt := 43) G d_M_post_39 (by decide) ?_
            exact J43 _ _ h
def lp_M_expire_43 (x1 : Int32) (x2 : Int32) (k : Int32 → Mem → RR) : Nat → Int32 → Int32 → Mem → RR
  | 0, _, _, _ => none
  | n + 1, x3, x4, s =>
    if ((4 : Int32)) ≤ x4 then (
      k x3 s
    ) else (
      mm_cI (f_M_at x2 x1 x4 s) fun v57 s57 =>
      mm_ld s57 46 0 768 v57 fun v60 =>
      mm_jn (fun (y66 : Int32) s66 =>
        mm_cI (f_M_at x2 x1 x4 s66) fun v74 s74 =>
        mm_sz s74 46 0 768 v74 ((0 : Int32)) fun s78 =>
        lp_M_expire_43 x1 x2 k n y66 (x4 + (1 : Int32)) s78
      ) (fun r66 =>
      if v60 = 0 then (
        r66 x3 s57
      ) else (
        r66 ((1 : Int32)) s57
      ))
    )
set_option maxRecDepth 100000 in
set_option maxHeartbeats 4000000 in
theorem lp_M_expire_43_ok {K : KK} {Γ : Cx} {o : Oc} {q : Mem} (x1 : Int32) (x2 : Int32)  (k : Int32 → Mem → RR) (G : Good K Γ b_M_expire "VillageMailModel" 5 1 22) (E : Ends K Γ none o q)
    (Kx : ∀ (x3 : Int32) (s : Mem), k x3 s = some (o, q) → WW K Γ 0 s 85 [(0, .ref (aa K 30 0)), (1, .int x1), (2, .int x2), (3, .int x3)] []) :
    ∀ (n : Nat) (x3 : Int32) (x4 : Int32) (s : Mem), lp_M_expire_43 x1 x2 k n x3 x4 s = some (o, q) → WW K Γ 0 s 43 [(0, .ref (aa K 30 0)), (1, .int x1), (2, .int x2), (3, .int x3), (4, .int x4)] [] := by
  intro n
  induction n with
  | zero => intro _ _ _ h; exact nomatch h
  | succ n ih =>
    intro x3 x4 s h
    unfold lp_M_expire_43 at h
    refine ww_iload 4 G d_M_expire_43 rfl ?_
    refine ww_iconst (v := (4 : Int32)) G d_M_expire_45 ic_4 ?_
    refine ww_icmpge (tgt := 85) G d_M_expire_46 (by decide) h (fun h => ?_) (fun h => ?_)
    · skip
      refine ww_sub [0, 1, 2, 3] rfl ?_
      exact Kx _ _ h
    · skip
      refine ww_aload_n 0 G d_M_expire_49 rfl rfl ?_
      refine ww_getr G fs_M_56 (by decide) d_M_expire_50 ?_
      refine ww_iload_n 2 G d_M_expire_53 rfl rfl ?_
      refine ww_iload_n 1 G d_M_expire_54 rfl rfl ?_
      refine ww_iload 4 G d_M_expire_55 rfl ?_
      refine ww_csI (As := [_, _, _]) G E cs_M_146 (fun o q h => c_M_at x2 x1 x4 _ _ _ h) rfl rfl (Nat.le_of_ble_eq_true rfl) d_M_expire_57 (by decide) h (fun v57 s57 h => ?_)
      refine ww_baload G ar_46 (by decide) d_M_expire_60 h (fun v60 h => ?_)
      refine ww_jn h (fun (y66 : Int32) (s66 : Mem) => WW K Γ 0 s66 66 [(0, .ref (aa K 30 0)), (1, .int x1), (2, .int x2), (3, .int y66), (4, .int x4)] []) (fun y66 s66 h => ?_) (fun r66 J66 h => ?_)
      · skip
        refine ww_aload_n 0 G d_M_expire_66 rfl rfl ?_
        refine ww_getr G fs_M_56 (by decide) d_M_expire_67 ?_
        refine ww_iload_n 2 G d_M_expire_70 rfl rfl ?_
        refine ww_iload_n 1 G d_M_expire_71 rfl rfl ?_
        refine ww_iload 4 G d_M_expire_72 rfl ?_
        refine ww_csI (As := [_, _, _]) G E cs_M_146 (fun o q h => c_M_at x2 x1 x4 _ _ _ h) rfl rfl (Nat.le_of_ble_eq_true rfl) d_M_expire_74 (by decide) h (fun v74 s74 h => ?_)
        refine ww_iconst (v := (0 : Int32)) G d_M_expire_77 ic_0 ?_
        refine ww_bastore G ar_46 (by decide) d_M_expire_78 h (fun s78 h => ?_)
        refine ww_iinc 4 (L' := [(4, _), (0, _), (1, _), (2, _), (3, _)]) G d_M_expire_79 rfl ic_1 (by decide) rfl ?_
        refine ww_goto (tgt := 43) G d_M_expire_82 (by decide) ?_
        refine ww_sub [1, 2, 3, 4, 0] rfl ?_
        exact ih _ _ _ h
      refine ww_ifeq (tgt := 66) G d_M_expire_61 (by decide) h (fun h => ?_) (fun h => ?_)
      · skip
        exact J66 _ _ h
      · skip
        refine ww_iconst (v := (1 : Int32)) G d_M_expire_64 ic_1 ?_
        refine ww_istore_n (L' := [(3, _), (0, _), (1, _), (2, _), (4, _)]) G d_M_expire_65 rfl (by decide) rfl ?_
        refine ww_sub [1, 2, 3, 0, 4] rfl ?_
        exact J66 _ _ h
def lp_M_expire_32 (x1 : Int32) (k : Mem → RR) : Nat → Int32 → Mem → RR
  | 0, _, _ => none
  | n + 1, x2, s =>
    if ((12 : Int32)) ≤ x2 then (
      k s
    ) else (
      mm_lp (fun kk => lp_M_expire_43 x1 x2 kk FU ((0 : Int32)) ((0 : Int32)) s) fun x3_43 s43 =>
      if x3_43 = 0 then (
        lp_M_expire_32 x1 k n (x2 + (1 : Int32)) s43
      ) else (
        mm_ld s43 44 0 16 x1 fun v94 =>
        if v94 = 0 then (
          lp_M_expire_32 x1 k n (x2 + (1 : Int32)) s43
        ) else (
          mm_ld s43 51 0 12 x2 fun v104 =>
          mm_st s43 51 0 12 x2 (v104 + ((1 : Int32))) fun s107 =>
          lp_M_expire_32 x1 k n (x2 + (1 : Int32)) s107
        )
      )
    )
set_option maxRecDepth 100000 in
set_option maxHeartbeats 4000000 in
theorem lp_M_expire_32_ok {K : KK} {Γ : Cx} {o : Oc} {q : Mem} (x1 : Int32)  (k : Mem → RR) (G : Good K Γ b_M_expire "VillageMailModel" 5 1 22) (E : Ends K Γ none o q)
    (Kx : ∀  (s : Mem), k s = some (o, q) → WW K Γ 0 s 114 [] []) :
    ∀ (n : Nat) (x2 : Int32) (s : Mem), lp_M_expire_32 x1 k n x2 s = some (o, q) → WW K Γ 0 s 32 [(0, .ref (aa K 30 0)), (1, .int x1), (2, .int x2)] [] := by
  intro n
  induction n with
  | zero => intro _ _ h; exact nomatch h
  | succ n ih =>
    intro x2 s h
    unfold lp_M_expire_32 at h
    refine ww_iload_n 2 G d_M_expire_32 rfl rfl ?_
    refine ww_bipush (v := (12 : Int32)) G d_M_expire_33 ib_12 ?_
    refine ww_icmpge (tgt := 114) G d_M_expire_35 (by decide) h (fun h => ?_) (fun h => ?_)
    · skip
      refine ww_sub [] rfl ?_
      exact Kx  _ h
    · skip
      refine ww_iconst (v := (0 : Int32)) G d_M_expire_38 ic_0 ?_
      refine ww_istore_n (L' := [(3, _), (0, _), (1, _), (2, _)]) G d_M_expire_39 rfl (by decide) rfl ?_
      refine ww_iconst (v := (0 : Int32)) G d_M_expire_40 ic_0 ?_
      refine ww_istore (L' := [(4, _), (3, _), (0, _), (1, _), (2, _)]) G d_M_expire_41 (by decide) rfl ?_
      refine ww_sub [2, 3, 4, 1, 0] rfl ?_
      refine lp_M_expire_43_ok x1 x2 _ G E (fun x3_43 s43 h => ?_) FU _ _ _ h
      refine ww_iload_n 3 G d_M_expire_85 rfl rfl ?_
      refine ww_ifeq (tgt := 108) G d_M_expire_86 (by decide) h (fun h => ?_) (fun h => ?_)
      · skip
        refine ww_iinc 2 (L' := [(2, _), (0, _), (1, _), (3, _)]) G d_M_expire_108 rfl ic_1 (by decide) rfl ?_
        refine ww_goto (tgt := 32) G d_M_expire_111 (by decide) ?_
        refine ww_sub [1, 2, 0] rfl ?_
        exact ih _ _ h
      · skip
        refine ww_aload_n 0 G d_M_expire_89 rfl rfl ?_
        refine ww_getr G fs_M_49 (by decide) d_M_expire_90 ?_
        refine ww_iload_n 1 G d_M_expire_93 rfl rfl ?_
        refine ww_baload G ar_44 (by decide) d_M_expire_94 h (fun v94 h => ?_)
        refine ww_ifeq (tgt := 108) G d_M_expire_95 (by decide) h (fun h => ?_) (fun h => ?_)
        · skip
          refine ww_iinc 2 (L' := [(2, _), (0, _), (1, _), (3, _)]) G d_M_expire_108 rfl ic_1 (by decide) rfl ?_
          refine ww_goto (tgt := 32) G d_M_expire_111 (by decide) ?_
          refine ww_sub [1, 2, 0] rfl ?_
          exact ih _ _ h
        · skip
          refine ww_aload_n 0 G d_M_expire_98 rfl rfl ?_
          refine ww_getr G fs_M_71 (by decide) d_M_expire_99 ?_
          refine ww_iload_n 2 G d_M_expire_102 rfl rfl ?_
          refine ww_dup2 G d_M_expire_103 rfl rfl ?_
          refine ww_iaload G ar_51 (by decide) d_M_expire_104 h (fun v104 h => ?_)
          refine ww_iconst (v := (1 : Int32)) G d_M_expire_105 ic_1 ?_
          refine ww_iadd G d_M_expire_106 ?_
          refine ww_iastore G ar_51 (by decide) d_M_expire_107 h (fun s107 h => ?_)
          refine ww_iinc 2 (L' := [(2, _), (0, _), (1, _), (3, _)]) G d_M_expire_108 rfl ic_1 (by decide) rfl ?_
          refine ww_goto (tgt := 32) G d_M_expire_111 (by decide) ?_
          refine ww_sub [1, 2, 0] rfl ?_
          exact ih _ _ h
def f_M_expire (x1 : Int32) (s : Mem) : RR :=
  mm_ld s 39 0 16 x1 fun v16 =>
  mm_ld s 50 0 192 ((((16 : Int32)) * v16) + x1) fun v20 =>
  mm_jn (fun (y29 : Int32) s29 =>
    mm_sz s29 44 0 16 x1 y29 fun s29 =>
    mm_lp (fun kk => lp_M_expire_32 x1 kk FU ((0 : Int32)) s29) fun s32 =>
    mm_rv s32
  ) (fun r29 =>
  if ¬ v20 = 0 then (
    r29 ((0 : Int32)) s
  ) else (
    r29 ((1 : Int32)) s
  ))
set_option maxRecDepth 100000 in
set_option maxHeartbeats 4000000 in
theorem c_M_expire {l : Launch} {K : KK} (x1 : Int32)  (s : Mem) (o : Oc) (q : Mem) (h : f_M_expire x1 s = some (o, q)) : Ct l K y_M_expire b_M_expire 5 none 1 22 [.ref (aa K 30 0), .int x1] s o q := by
  refine Ct_of (own := "VillageMailModel") (L := [(0, _), (1, _)]) (by decide +kernel) rfl (Nat.le_of_ble_eq_true rfl) rfl (fun Γ G E => ?_)
  unfold f_M_expire at h
  refine ww_aload_n 0 G d_M_expire_0 rfl rfl ?_
  refine ww_getr G fs_M_49 (by decide) d_M_expire_1 ?_
  refine ww_iload_n 1 G d_M_expire_4 rfl rfl ?_
  refine ww_aload_n 0 G d_M_expire_5 rfl rfl ?_
  refine ww_getr G fs_M_68 (by decide) d_M_expire_6 ?_
  refine ww_bipush (v := (16 : Int32)) G d_M_expire_9 ib_16 ?_
  refine ww_aload_n 0 G d_M_expire_11 rfl rfl ?_
  refine ww_getr G fs_M_34 (by decide) d_M_expire_12 ?_
  refine ww_iload_n 1 G d_M_expire_15 rfl rfl ?_
  refine ww_iaload G ar_39 (by decide) d_M_expire_16 h (fun v16 h => ?_)
  refine ww_imul G d_M_expire_17 ?_
  refine ww_iload_n 1 G d_M_expire_18 rfl rfl ?_
  refine ww_iadd G d_M_expire_19 ?_
  refine ww_iaload G ar_50 (by decide) d_M_expire_20 h (fun v20 h => ?_)
  refine ww_jn h (fun (y29 : Int32) (s29 : Mem) => WW K Γ 0 s29 29 [(0, .ref (aa K 30 0)), (1, .int x1)] [.int y29, .int x1, .ref (aa K 44 0)]) (fun y29 s29 h => ?_) (fun r29 J29 h => ?_)
  · skip
    refine ww_bastore G ar_44 (by decide) d_M_expire_29 h (fun s29 h => ?_)
    refine ww_iconst (v := (0 : Int32)) G d_M_expire_30 ic_0 ?_
    refine ww_istore_n (L' := [(2, _), (0, _), (1, _)]) G d_M_expire_31 rfl (by decide) rfl ?_
    refine ww_sub [1, 2, 0] rfl ?_
    refine lp_M_expire_32_ok x1 _ G E (fun s32 h => ?_) FU _ _ h
    exact ww_vret G E d_M_expire_114 h
  refine ww_ifne (tgt := 28) G d_M_expire_21 (by decide) h (fun h => ?_) (fun h => ?_)
  · skip
    refine ww_iconst (v := (0 : Int32)) G d_M_expire_28 ic_0 ?_
    exact J29 _ _ h
  · skip
    refine ww_iconst (v := (1 : Int32)) G d_M_expire_24 ic_1 ?_
    refine ww_goto (tgt := 29) G d_M_expire_25 (by decide) ?_
    exact J29 _ _ h

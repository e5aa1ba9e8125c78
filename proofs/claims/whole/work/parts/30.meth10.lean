def lp_M_lookAt_21 (x1 : Int32) (x2 : Int32) (k : Int32 → Mem → RR) : Nat → Int32 → Int32 → Mem → RR
  | 0, _, _, _ => none
  | n + 1, x3, x4, s =>
    mm_ld s 36 0 16 x1 fun v28 =>
    if v28 ≤ x4 then (
      k x3 s
    ) else (
      mm_cI (f_M_turned x3 s) fun v33 s33 =>
      mm_cI (f_M_byteOf x2 x1 x4 s33) fun v41 s41 =>
      lp_M_lookAt_21 x1 x2 k n (v33 ^^^ v41) (x4 + (1 : Int32)) s41
    )
set_option maxRecDepth 100000 in
set_option maxHeartbeats 4000000 in
theorem lp_M_lookAt_21_ok {K : KK} {Γ : Cx} {o : Oc} {q : Mem} (x1 : Int32) (x2 : Int32)  (k : Int32 → Mem → RR) (G : Good K Γ b_M_lookAt "VillageMailModel" 7 2 46) (E : Ends K Γ none o q)
    (Kx : ∀ (x3 : Int32) (s : Mem), k x3 s = some (o, q) → WW K Γ 0 s 52 [(0, .ref (aa K 30 0)), (1, .int x1), (2, .int x2), (3, .int x3)] []) :
    ∀ (n : Nat) (x3 : Int32) (x4 : Int32) (s : Mem), lp_M_lookAt_21 x1 x2 k n x3 x4 s = some (o, q) → WW K Γ 0 s 21 [(0, .ref (aa K 30 0)), (1, .int x1), (2, .int x2), (3, .int x3), (4, .int x4)] [] := by
  intro n
  induction n with
  | zero => intro _ _ _ h; exact nomatch h
  | succ n ih =>
    intro x3 x4 s h
    unfold lp_M_lookAt_21 at h
    refine ww_iload 4 G d_M_lookAt_21 rfl ?_
    refine ww_aload_n 0 G d_M_lookAt_23 rfl rfl ?_
    refine ww_getr G fs_M_25 (by decide) d_M_lookAt_24 ?_
    refine ww_iload_n 1 G d_M_lookAt_27 rfl rfl ?_
    refine ww_iaload G ar_36 (by decide) d_M_lookAt_28 h (fun v28 h => ?_)
    refine ww_icmpge (tgt := 52) G d_M_lookAt_29 (by decide) h (fun h => ?_) (fun h => ?_)
    · skip
      refine ww_sub [0, 1, 2, 3] rfl ?_
      exact Kx _ _ h
    · skip
      refine ww_iload_n 3 G d_M_lookAt_32 rfl rfl ?_
      refine ww_csI (As := [_]) G E cs_M_157 (fun o q h => c_M_turned x3 _ _ _ h) rfl rfl (Nat.le_of_ble_eq_true rfl) d_M_lookAt_33 (by decide) h (fun v33 s33 h => ?_)
      refine ww_aload_n 0 G d_M_lookAt_36 rfl rfl ?_
      refine ww_iload_n 2 G d_M_lookAt_37 rfl rfl ?_
      refine ww_iload_n 1 G d_M_lookAt_38 rfl rfl ?_
      refine ww_iload 4 G d_M_lookAt_39 rfl ?_
      refine ww_cvI (As := [_, _, _]) G E cs_M_160 (by decide) (fun o q h => c_M_byteOf x2 x1 x4 _ _ _ h) rfl rfl (Nat.le_of_ble_eq_true rfl) d_M_lookAt_41 (by decide) h (fun v41 s41 h => ?_)
      refine ww_ixor G d_M_lookAt_44 ?_
      refine ww_istore_n (L' := [(3, _), (0, _), (1, _), (2, _), (4, _)]) G d_M_lookAt_45 rfl (by decide) rfl ?_
      refine ww_iinc 4 (L' := [(4, _), (3, _), (0, _), (1, _), (2, _)]) G d_M_lookAt_46 rfl ic_1 (by decide) rfl ?_
      refine ww_goto (tgt := 21) G d_M_lookAt_49 (by decide) ?_
      refine ww_sub [2, 3, 4, 1, 0] rfl ?_
      exact ih _ _ _ h
def lp_M_lookAt_76 (x1 : Int32) (x2 : Int32) (k : Int32 → Mem → RR) : Nat → Int32 → Int32 → Mem → RR
  | 0, _, _, _ => none
  | n + 1, x4, x5, s =>
    if ((3 : Int32)) ≤ x5 then (
      k x4 s
    ) else (
      mm_cI (f_M_isFor x1 x5 s) fun v86 s86 =>
      if v86 = 0 then (
        lp_M_lookAt_76 x1 x2 k n x4 (x5 + (1 : Int32)) s86
      ) else (
        mm_ld s86 53 0 24 ((((3 : Int32)) * x2) + x5) fun v109 =>
        if v109 < 0 then (
          mm_rv s86
        ) else (
          mm_ld s86 53 0 24 ((((3 : Int32)) * x2) + x5) fun v119 =>
          mm_cI (f_M_bytesIn ((((3 : Int32)) * x2) + x5) s86) fun v123 s123 =>
          mm_ld s123 36 0 16 x1 fun v132 =>
          if v132 ≤ (v119 - v123) then (
            lp_M_lookAt_76 x1 x2 k n (x4 + (1 : Int32)) (x5 + (1 : Int32)) s123
          ) else (
            mm_rv s123
          )
        )
      )
    )
set_option maxRecDepth 100000 in
set_option maxHeartbeats 4000000 in
theorem lp_M_lookAt_76_ok {K : KK} {Γ : Cx} {o : Oc} {q : Mem} (x1 : Int32) (x2 : Int32)  (k : Int32 → Mem → RR) (G : Good K Γ b_M_lookAt "VillageMailModel" 7 2 46) (E : Ends K Γ none o q)
    (Kx : ∀ (x4 : Int32) (s : Mem), k x4 s = some (o, q) → WW K Γ 0 s 143 [(0, .ref (aa K 30 0)), (1, .int x1), (2, .int x2), (4, .int x4)] []) :
    ∀ (n : Nat) (x4 : Int32) (x5 : Int32) (s : Mem), lp_M_lookAt_76 x1 x2 k n x4 x5 s = some (o, q) → WW K Γ 0 s 76 [(0, .ref (aa K 30 0)), (1, .int x1), (2, .int x2), (4, .int x4), (5, .int x5)] [] := by
  intro n
  induction n with
  | zero => intro _ _ _ h; exact nomatch h
  | succ n ih =>
    intro x4 x5 s h
    unfold lp_M_lookAt_76 at h
    refine ww_iload 4 G d_M_lookAt_76 rfl ?_
    refine ww_iconst (v := (3 : Int32)) G d_M_lookAt_78 ic_3 ?_
    refine ww_icmpge (tgt := 143) G d_M_lookAt_79 (by decide) h (fun h => ?_) (fun h => ?_)
    · skip
      refine ww_sub [0, 1, 2, 3] rfl ?_
      exact Kx _ _ h
    · skip
      refine ww_aload_n 0 G d_M_lookAt_82 rfl rfl ?_
      refine ww_iload_n 1 G d_M_lookAt_83 rfl rfl ?_
      refine ww_iload 4 G d_M_lookAt_84 rfl ?_
      refine ww_cvI (As := [_, _]) G E cs_M_167 (by decide) (fun o q h => c_M_isFor x1 x5 _ _ _ h) rfl rfl (Nat.le_of_ble_eq_true rfl) d_M_lookAt_86 (by decide) h (fun v86 s86 h => ?_)
      refine ww_ifeq (tgt := 137) G d_M_lookAt_89 (by decide) h (fun h => ?_) (fun h => ?_)
      · skip
        refine ww_iinc 4 (L' := [(5, _), (0, _), (1, _), (2, _), (4, _)]) G d_M_lookAt_137 rfl ic_1 (by decide) rfl ?_
        refine ww_goto (tgt := 76) G d_M_lookAt_140 (by decide) ?_
        refine ww_sub [1, 2, 3, 4, 0] rfl ?_
        exact ih _ _ _ h
      · skip
        refine ww_iconst (v := (3 : Int32)) G d_M_lookAt_92 ic_3 ?_
        refine ww_iload_n 2 G d_M_lookAt_93 rfl rfl ?_
        refine ww_imul G d_M_lookAt_94 ?_
        refine ww_iload 4 G d_M_lookAt_95 rfl ?_
        refine ww_iadd G d_M_lookAt_97 ?_
        refine ww_istore (L' := [(6, _), (0, _), (1, _), (2, _), (4, _), (5, _)]) G d_M_lookAt_98 (by decide) rfl ?_
        refine ww_iinc 4 (L' := [(4, _), (6, _), (0, _), (1, _), (2, _), (5, _)]) G d_M_lookAt_100 rfl ic_1 (by decide) rfl ?_
        refine ww_aload_n 2 G d_M_lookAt_103 rfl rfl ?_
        refine ww_getr G fs_M_77 (by decide) d_M_lookAt_104 ?_
        refine ww_iload 1 G d_M_lookAt_107 rfl ?_
        refine ww_iaload G ar_53 (by decide) d_M_lookAt_109 h (fun v109 h => ?_)
        refine ww_iflt (tgt := 136) G d_M_lookAt_110 (by decide) h (fun h => ?_) (fun h => ?_)
        · skip
          exact ww_vret G E d_M_lookAt_136 h
        · skip
          refine ww_aload_n 2 G d_M_lookAt_113 rfl rfl ?_
          refine ww_getr G fs_M_77 (by decide) d_M_lookAt_114 ?_
          refine ww_iload 1 G d_M_lookAt_117 rfl ?_
          refine ww_iaload G ar_53 (by decide) d_M_lookAt_119 h (fun v119 h => ?_)
          refine ww_aload_n 2 G d_M_lookAt_120 rfl rfl ?_
          refine ww_iload 1 G d_M_lookAt_121 rfl ?_
          refine ww_cvI (As := [_]) G E cs_M_170 (by decide) (fun o q h => c_M_bytesIn ((((3 : Int32)) * x2) + x5) _ _ _ h) rfl rfl (Nat.le_of_ble_eq_true rfl) d_M_lookAt_123 (by decide) h (fun v123 s123 h => ?_)
          refine ww_isub G d_M_lookAt_126 ?_
          refine ww_aload_n 2 G d_M_lookAt_127 rfl rfl ?_
          refine ww_getr G fs_M_25 (by decide) d_M_lookAt_128 ?_
          refine ww_iload_n 3 G d_M_lookAt_131 rfl rfl ?_
          refine ww_iaload G ar_36 (by decide) d_M_lookAt_132 h (fun v132 h => ?_)
          refine ww_icmpge (tgt := 137) G d_M_lookAt_133 (by decide) h (fun h => ?_) (fun h => ?_)
          · skip
            refine ww_iinc 5 (L' := [(5, _), (4, _), (6, _), (0, _), (1, _), (2, _)]) G d_M_lookAt_137 rfl ic_1 (by decide) rfl ?_
            refine ww_goto (tgt := 76) G d_M_lookAt_140 (by decide) ?_
            refine ww_sub [3, 4, 5, 1, 0] rfl ?_
            exact ih _ _ _ h
          · skip
            exact ww_vret G E d_M_lookAt_136 h
def lp_M_lookAt_152 (x1 : Int32) (x2 : Int32) (k : Mem → RR) : Nat → Int32 → Mem → RR
  | 0, _, _ => none
  | n + 1, x5, s =>
    mm_ld s 36 0 16 x1 fun v159 =>
    if v159 ≤ x5 then (
      k s
    ) else (
      mm_cI (f_M_byteOf x2 x1 x5 s) fun v179 s179 =>
      mm_st s179 45 0 512 ((((32 : Int32)) * x1) + x5) v179 fun s182 =>
      lp_M_lookAt_152 x1 x2 k n (x5 + (1 : Int32)) s182
    )
set_option maxRecDepth 100000 in
set_option maxHeartbeats 4000000 in
theorem lp_M_lookAt_152_ok {K : KK} {Γ : Cx} {o : Oc} {q : Mem} (x1 : Int32) (x2 : Int32)  (k : Mem → RR) (G : Good K Γ b_M_lookAt "VillageMailModel" 7 2 46) (E : Ends K Γ none o q)
    (Kx : ∀  (s : Mem), k s = some (o, q) → WW K Γ 0 s 189 [(0, .ref (aa K 30 0)), (1, .int x1), (2, .int x2)] []) :
    ∀ (n : Nat) (x5 : Int32) (s : Mem), lp_M_lookAt_152 x1 x2 k n x5 s = some (o, q) → WW K Γ 0 s 152 [(0, .ref (aa K 30 0)), (1, .int x1), (2, .int x2), (5, .int x5)] [] := by
  intro n
  induction n with
  | zero => intro _ _ h; exact nomatch h
  | succ n ih =>
    intro x5 s h
    unfold lp_M_lookAt_152 at h
    refine ww_iload 3 G d_M_lookAt_152 rfl ?_
    refine ww_aload_n 0 G d_M_lookAt_154 rfl rfl ?_
    refine ww_getr G fs_M_25 (by decide) d_M_lookAt_155 ?_
    refine ww_iload_n 1 G d_M_lookAt_158 rfl rfl ?_
    refine ww_iaload G ar_36 (by decide) d_M_lookAt_159 h (fun v159 h => ?_)
    refine ww_icmpge (tgt := 189) G d_M_lookAt_160 (by decide) h (fun h => ?_) (fun h => ?_)
    · skip
      refine ww_sub [0, 1, 2] rfl ?_
      exact Kx  _ h
    · skip
      refine ww_aload_n 0 G d_M_lookAt_163 rfl rfl ?_
      refine ww_getr G fs_M_53 (by decide) d_M_lookAt_164 ?_
      refine ww_bipush (v := (32 : Int32)) G d_M_lookAt_167 ib_32 ?_
      refine ww_iload_n 1 G d_M_lookAt_169 rfl rfl ?_
      refine ww_imul G d_M_lookAt_170 ?_
      refine ww_iload 3 G d_M_lookAt_171 rfl ?_
      refine ww_iadd G d_M_lookAt_173 ?_
      refine ww_aload_n 0 G d_M_lookAt_174 rfl rfl ?_
      refine ww_iload_n 2 G d_M_lookAt_175 rfl rfl ?_
      refine ww_iload_n 1 G d_M_lookAt_176 rfl rfl ?_
      refine ww_iload 3 G d_M_lookAt_177 rfl ?_
      refine ww_cvI (As := [_, _, _]) G E cs_M_160 (by decide) (fun o q h => c_M_byteOf x2 x1 x5 _ _ _ h) rfl rfl (Nat.le_of_ble_eq_true rfl) d_M_lookAt_179 (by decide) h (fun v179 s179 h => ?_)
      refine ww_iastore G ar_45 (by decide) d_M_lookAt_182 h (fun s182 h => ?_)
      refine ww_iinc 3 (L' := [(5, _), (0, _), (1, _), (2, _)]) G d_M_lookAt_183 rfl ic_1 (by decide) rfl ?_
      refine ww_goto (tgt := 152) G d_M_lookAt_186 (by decide) ?_
      refine ww_sub [1, 2, 3, 0] rfl ?_
      exact ih _ _ h
def lp_M_lookAt_192 (x1 : Int32) (x2 : Int32) (k : Mem → RR) : Nat → Int32 → Mem → RR
  | 0, _, _ => none
  | n + 1, x5, s =>
    if ((3 : Int32)) ≤ x5 then (
      k s
    ) else (
      mm_cI (f_M_isFor x1 x5 s) fun v202 s202 =>
      if v202 = 0 then (
        lp_M_lookAt_192 x1 x2 k n (x5 + (1 : Int32)) s202
      ) else (
        mm_ld s202 54 0 24 ((((3 : Int32)) * x2) + x5) fun v231 =>
        mm_st s202 55 0 384 ((((16 : Int32)) * ((((3 : Int32)) * x2) + x5)) + v231) x1 fun s234 =>
        mm_ld s234 54 0 24 ((((3 : Int32)) * x2) + x5) fun v242 =>
        mm_st s234 54 0 24 ((((3 : Int32)) * x2) + x5) (v242 + ((1 : Int32))) fun s245 =>
        lp_M_lookAt_192 x1 x2 k n (x5 + (1 : Int32)) s245
      )
    )
set_option maxRecDepth 100000 in
set_option maxHeartbeats 4000000 in
theorem lp_M_lookAt_192_ok {K : KK} {Γ : Cx} {o : Oc} {q : Mem} (x1 : Int32) (x2 : Int32)  (k : Mem → RR) (G : Good K Γ b_M_lookAt "VillageMailModel" 7 2 46) (E : Ends K Γ none o q)
    (Kx : ∀  (s : Mem), k s = some (o, q) → WW K Γ 0 s 252 [(0, .ref (aa K 30 0)), (1, .int x1), (2, .int x2)] []) :
    ∀ (n : Nat) (x5 : Int32) (s : Mem), lp_M_lookAt_192 x1 x2 k n x5 s = some (o, q) → WW K Γ 0 s 192 [(0, .ref (aa K 30 0)), (1, .int x1), (2, .int x2), (5, .int x5)] [] := by
  intro n
  induction n with
  | zero => intro _ _ h; exact nomatch h
  | succ n ih =>
    intro x5 s h
    unfold lp_M_lookAt_192 at h
    refine ww_iload 3 G d_M_lookAt_192 rfl ?_
    refine ww_iconst (v := (3 : Int32)) G d_M_lookAt_194 ic_3 ?_
    refine ww_icmpge (tgt := 252) G d_M_lookAt_195 (by decide) h (fun h => ?_) (fun h => ?_)
    · skip
      refine ww_sub [0, 1, 2] rfl ?_
      exact Kx  _ h
    · skip
      refine ww_aload_n 0 G d_M_lookAt_198 rfl rfl ?_
      refine ww_iload_n 1 G d_M_lookAt_199 rfl rfl ?_
      refine ww_iload 3 G d_M_lookAt_200 rfl ?_
      refine ww_cvI (As := [_, _]) G E cs_M_167 (by decide) (fun o q h => c_M_isFor x1 x5 _ _ _ h) rfl rfl (Nat.le_of_ble_eq_true rfl) d_M_lookAt_202 (by decide) h (fun v202 s202 h => ?_)
      refine ww_ifeq (tgt := 246) G d_M_lookAt_205 (by decide) h (fun h => ?_) (fun h => ?_)
      · skip
        refine ww_iinc 3 (L' := [(5, _), (0, _), (1, _), (2, _)]) G d_M_lookAt_246 rfl ic_1 (by decide) rfl ?_
        refine ww_goto (tgt := 192) G d_M_lookAt_249 (by decide) ?_
        refine ww_sub [1, 2, 3, 0] rfl ?_
        exact ih _ _ h
      · skip
        refine ww_iconst (v := (3 : Int32)) G d_M_lookAt_208 ic_3 ?_
        refine ww_iload_n 2 G d_M_lookAt_209 rfl rfl ?_
        refine ww_imul G d_M_lookAt_210 ?_
        refine ww_iload 3 G d_M_lookAt_211 rfl ?_
        refine ww_iadd G d_M_lookAt_213 ?_
        refine ww_istore (L' := [(6, _), (0, _), (1, _), (2, _), (5, _)]) G d_M_lookAt_214 (by decide) rfl ?_
        refine ww_aload_n 1 G d_M_lookAt_216 rfl rfl ?_
        refine ww_getr G fs_M_83 (by decide) d_M_lookAt_217 ?_
        refine ww_bipush (v := (16 : Int32)) G d_M_lookAt_220 ib_16 ?_
        refine ww_iload 0 G d_M_lookAt_222 rfl ?_
        refine ww_imul G d_M_lookAt_224 ?_
        refine ww_aload_n 1 G d_M_lookAt_225 rfl rfl ?_
        refine ww_getr G fs_M_80 (by decide) d_M_lookAt_226 ?_
        refine ww_iload 0 G d_M_lookAt_229 rfl ?_
        refine ww_iaload G ar_54 (by decide) d_M_lookAt_231 h (fun v231 h => ?_)
        refine ww_iadd G d_M_lookAt_232 ?_
        refine ww_iload_n 2 G d_M_lookAt_233 rfl rfl ?_
        refine ww_iastore G ar_55 (by decide) d_M_lookAt_234 h (fun s234 h => ?_)
        refine ww_aload_n 1 G d_M_lookAt_235 rfl rfl ?_
        refine ww_getr G fs_M_80 (by decide) d_M_lookAt_236 ?_
        refine ww_iload 0 G d_M_lookAt_239 rfl ?_
        refine ww_dup2 G d_M_lookAt_241 rfl rfl ?_
        refine ww_iaload G ar_54 (by decide) d_M_lookAt_242 h (fun v242 h => ?_)
        refine ww_iconst (v := (1 : Int32)) G d_M_lookAt_243 ic_1 ?_
        refine ww_iadd G d_M_lookAt_244 ?_
        refine ww_iastore G ar_54 (by decide) d_M_lookAt_245 h (fun s245 h => ?_)
        refine ww_iinc 4 (L' := [(5, _), (6, _), (0, _), (1, _), (2, _)]) G d_M_lookAt_246 rfl ic_1 (by decide) rfl ?_
        refine ww_goto (tgt := 192) G d_M_lookAt_249 (by decide) ?_
        refine ww_sub [2, 3, 4, 0] rfl ?_
        exact ih _ _ h
def f_M_lookAt (x1 : Int32) (s : Mem) : RR :=
  mm_cI (f_M_complete x1 s) fun v2 s2 =>
  if ¬ v2 = 0 then (
    mm_ld s2 39 0 16 x1 fun v14 =>
    mm_lp (fun kk => lp_M_lookAt_21 x1 v14 kk FU ((0 : Int32)) ((0 : Int32)) s2) fun x3_21 s21 =>
    mm_ld s21 42 0 16 x1 fun v58 =>
    if x3_21 = v58 then (
      mm_lp (fun kk => lp_M_lookAt_76 x1 v14 kk FU ((0 : Int32)) ((0 : Int32)) s21) fun x4_76 s76 =>
      if ¬ x4_76 = 0 then (
        mm_lp (fun kk => lp_M_lookAt_152 x1 v14 kk FU ((0 : Int32)) s76) fun s152 =>
        mm_lp (fun kk => lp_M_lookAt_192 x1 v14 kk FU ((0 : Int32)) s152) fun s192 =>
        mm_cV (f_M_learn v14 x1 ((1 : Int32)) s192) fun s256 =>
        mm_rv s256
      ) else (
        mm_rv s76
      )
    ) else (
      mm_cV (f_M_learn v14 x1 ((2 : Int32)) s21) fun s66 =>
      mm_rv s66
    )
  ) else (
    mm_rv s2
  )
set_option maxRecDepth 100000 in
set_option maxHeartbeats 4000000 in
theorem c_M_lookAt {l : Launch} {K : KK} (x1 : Int32)  (s : Mem) (o : Oc) (q : Mem) (h : f_M_lookAt x1 s = some (o, q)) : Ct l K y_M_lookAt b_M_lookAt 7 none 2 46 [.ref (aa K 30 0), .int x1] s o q := by
  refine Ct_of (own := "VillageMailModel") (L := [(0, _), (1, _)]) (by decide +kernel) rfl (Nat.le_of_ble_eq_true rfl) rfl (fun Γ G E => ?_)
  unfold f_M_lookAt at h
  refine ww_aload_n 0 G d_M_lookAt_0 rfl rfl ?_
  refine ww_iload_n 1 G d_M_lookAt_1 rfl rfl ?_
  refine ww_cvI (As := [_]) G E cs_M_154 (by decide) (fun o q h => c_M_complete x1 _ _ _ h) rfl rfl (Nat.le_of_ble_eq_true rfl) d_M_lookAt_2 (by decide) h (fun v2 s2 h => ?_)
  refine ww_ifne (tgt := 9) G d_M_lookAt_5 (by decide) h (fun h => ?_) (fun h => ?_)
  · skip
    refine ww_aload_n 0 G d_M_lookAt_9 rfl rfl ?_
    refine ww_getr G fs_M_34 (by decide) d_M_lookAt_10 ?_
    refine ww_iload_n 1 G d_M_lookAt_13 rfl rfl ?_
    refine ww_iaload G ar_39 (by decide) d_M_lookAt_14 h (fun v14 h => ?_)
    refine ww_istore_n (L' := [(2, _), (0, _), (1, _)]) G d_M_lookAt_15 rfl (by decide) rfl ?_
    refine ww_iconst (v := (0 : Int32)) G d_M_lookAt_16 ic_0 ?_
    refine ww_istore_n (L' := [(3, _), (2, _), (0, _), (1, _)]) G d_M_lookAt_17 rfl (by decide) rfl ?_
    refine ww_iconst (v := (0 : Int32)) G d_M_lookAt_18 ic_0 ?_
    refine ww_istore (L' := [(4, _), (3, _), (2, _), (0, _), (1, _)]) G d_M_lookAt_19 (by decide) rfl ?_
    refine ww_sub [3, 4, 2, 1, 0] rfl ?_
    refine lp_M_lookAt_21_ok x1 v14 _ G E (fun x3_21 s21 h => ?_) FU _ _ _ h
    refine ww_iload_n 3 G d_M_lookAt_52 rfl rfl ?_
    refine ww_aload_n 0 G d_M_lookAt_53 rfl rfl ?_
    refine ww_getr G fs_M_43 (by decide) d_M_lookAt_54 ?_
    refine ww_iload_n 1 G d_M_lookAt_57 rfl rfl ?_
    refine ww_iaload G ar_42 (by decide) d_M_lookAt_58 h (fun v58 h => ?_)
    refine ww_icmpeq (tgt := 70) G d_M_lookAt_59 (by decide) h (fun h => ?_) (fun h => ?_)
    · skip
      refine ww_iconst (v := (0 : Int32)) G d_M_lookAt_70 ic_0 ?_
      refine ww_istore (L' := [(4, _), (0, _), (1, _), (2, _), (3, _)]) G d_M_lookAt_71 (by decide) rfl ?_
      refine ww_iconst (v := (0 : Int32)) G d_M_lookAt_73 ic_0 ?_
      refine ww_istore (L' := [(5, _), (4, _), (0, _), (1, _), (2, _), (3, _)]) G d_M_lookAt_74 (by decide) rfl ?_
      refine ww_sub [2, 3, 4, 1, 0] rfl ?_
      refine lp_M_lookAt_76_ok x1 v14 _ G E (fun x4_76 s76 h => ?_) FU _ _ _ h
      refine ww_iload 3 G d_M_lookAt_143 rfl ?_
      refine ww_ifne (tgt := 149) G d_M_lookAt_145 (by decide) h (fun h => ?_) (fun h => ?_)
      · skip
        refine ww_iconst (v := (0 : Int32)) G d_M_lookAt_149 ic_0 ?_
        refine ww_istore (L' := [(5, _), (0, _), (1, _), (2, _), (4, _)]) G d_M_lookAt_150 (by decide) rfl ?_
        refine ww_sub [1, 2, 3, 0] rfl ?_
        refine lp_M_lookAt_152_ok x1 v14 _ G E (fun s152 h => ?_) FU _ _ h
        refine ww_iconst (v := (0 : Int32)) G d_M_lookAt_189 ic_0 ?_
        refine ww_istore (L' := [(5, _), (0, _), (1, _), (2, _)]) G d_M_lookAt_190 (by decide) rfl ?_
        refine ww_sub [1, 2, 3, 0] rfl ?_
        refine lp_M_lookAt_192_ok x1 v14 _ G E (fun s192 h => ?_) FU _ _ h
        refine ww_aload_n 0 G d_M_lookAt_252 rfl rfl ?_
        refine ww_iload_n 2 G d_M_lookAt_253 rfl rfl ?_
        refine ww_iload_n 1 G d_M_lookAt_254 rfl rfl ?_
        refine ww_iconst (v := (1 : Int32)) G d_M_lookAt_255 ic_1 ?_
        refine ww_cvV (As := [_, _, _]) G E cs_M_163 (by decide) (fun o q h => c_M_learn v14 x1 ((1 : Int32)) _ _ _ h) rfl rfl (Nat.le_of_ble_eq_true rfl) d_M_lookAt_256 (by decide) h (fun s256 h => ?_)
        exact ww_vret G E d_M_lookAt_259 h
      · skip
        exact ww_vret G E d_M_lookAt_148 h
    · skip
      refine ww_aload_n 0 G d_M_lookAt_62 rfl rfl ?_
      refine ww_iload_n 2 G d_M_lookAt_63 rfl rfl ?_
      refine ww_iload_n 1 G d_M_lookAt_64 rfl rfl ?_
      refine ww_iconst (v := (2 : Int32)) G d_M_lookAt_65 ic_2 ?_
      refine ww_cvV (As := [_, _, _]) G E cs_M_163 (by decide) (fun o q h => c_M_learn v14 x1 ((2 : Int32)) _ _ _ h) rfl rfl (Nat.le_of_ble_eq_true rfl) d_M_lookAt_66 (by decide) h (fun s66 h => ?_)
      exact ww_vret G E d_M_lookAt_69 h
  · skip
    exact ww_vret G E d_M_lookAt_8 h
def lp_M_lookAll_2 (x1 : Int32) (k : Mem → RR) : Nat → Int32 → Mem → RR
  | 0, _, _ => none
  | n + 1, x2, s =>
    mm_gf s 30 0 7 fun v4 =>
    if v4 ≤ x2 then (
      k s
    ) else (
      mm_ld s 39 0 16 x2 fun v15 =>
      if ¬ v15 = x1 then (
        lp_M_lookAll_2 x1 k n (x2 + (1 : Int32)) s
      ) else (
        mm_cV (f_M_lookAt x2 s) fun s22 =>
        lp_M_lookAll_2 x1 k n (x2 + (1 : Int32)) s22
      )
    )
set_option maxRecDepth 100000 in
set_option maxHeartbeats 4000000 in
theorem lp_M_lookAll_2_ok {K : KK} {Γ : Cx} {o : Oc} {q : Mem} (x1 : Int32)  (k : Mem → RR) (G : Good K Γ b_M_lookAll "VillageMailModel" 3 3 72) (E : Ends K Γ none o q)
    (Kx : ∀  (s : Mem), k s = some (o, q) → WW K Γ 0 s 31 [] []) :
    ∀ (n : Nat) (x2 : Int32) (s : Mem), lp_M_lookAll_2 x1 k n x2 s = some (o, q) → WW K Γ 0 s 2 [(0, .ref (aa K 30 0)), (1, .int x1), (2, .int x2)] [] := by
  intro n
  induction n with
  | zero => intro _ _ h; exact nomatch h
  | succ n ih =>
    intro x2 s h
    unfold lp_M_lookAll_2 at h
    refine ww_iload_n 2 G d_M_lookAll_2 rfl rfl ?_
    refine ww_aload_n 0 G d_M_lookAll_3 rfl rfl ?_
    refine ww_getf G fs_M_112 (by decide) d_M_lookAll_4 h (fun v4 h => ?_)
    refine ww_icmpge (tgt := 31) G d_M_lookAll_7 (by decide) h (fun h => ?_) (fun h => ?_)
    · skip
      refine ww_sub [] rfl ?_
      exact Kx  _ h
    · skip
      refine ww_aload_n 0 G d_M_lookAll_10 rfl rfl ?_
      refine ww_getr G fs_M_34 (by decide) d_M_lookAll_11 ?_
      refine ww_iload_n 2 G d_M_lookAll_14 rfl rfl ?_
      refine ww_iaload G ar_39 (by decide) d_M_lookAll_15 h (fun v15 h => ?_)
      refine ww_iload_n 1 G d_M_lookAll_16 rfl rfl ?_
      refine ww_icmpne (tgt := 25) G d_M_lookAll_17 (by decide) h (fun h => ?_) (fun h => ?_)
      · skip
        refine ww_iinc 2 (L' := [(2, _), (0, _), (1, _)]) G d_M_lookAll_25 rfl ic_1 (by decide) rfl ?_
        refine ww_goto (tgt := 2) G d_M_lookAll_28 (by decide) ?_
        refine ww_sub [1, 2, 0] rfl ?_
        exact ih _ _ h
      · skip
        refine ww_aload_n 0 G d_M_lookAll_20 rfl rfl ?_
        refine ww_iload_n 2 G d_M_lookAll_21 rfl rfl ?_
        refine ww_cvV (As := [_]) G E cs_M_173 (by decide) (fun o q h => c_M_lookAt x2 _ _ _ h) rfl rfl (Nat.le_of_ble_eq_true rfl) d_M_lookAll_22 (by decide) h (fun s22 h => ?_)
        refine ww_iinc 2 (L' := [(2, _), (0, _), (1, _)]) G d_M_lookAll_25 rfl ic_1 (by decide) rfl ?_
        refine ww_goto (tgt := 2) G d_M_lookAll_28 (by decide) ?_
        refine ww_sub [1, 2, 0] rfl ?_
        exact ih _ _ h
def f_M_lookAll (x1 : Int32) (s : Mem) : RR :=
  mm_lp (fun kk => lp_M_lookAll_2 x1 kk FU ((0 : Int32)) s) fun s2 =>
  mm_rv s2
set_option maxRecDepth 100000 in
set_option maxHeartbeats 4000000 in
theorem c_M_lookAll {l : Launch} {K : KK} (x1 : Int32)  (s : Mem) (o : Oc) (q : Mem) (h : f_M_lookAll x1 s = some (o, q)) : Ct l K y_M_lookAll b_M_lookAll 3 none 3 72 [.ref (aa K 30 0), .int x1] s o q := by
  refine Ct_of (own := "VillageMailModel") (L := [(0, _), (1, _)]) (by decide +kernel) rfl (Nat.le_of_ble_eq_true rfl) rfl (fun Γ G E => ?_)
  unfold f_M_lookAll at h
  refine ww_iconst (v := (0 : Int32)) G d_M_lookAll_0 ic_0 ?_
  refine ww_istore_n (L' := [(2, _), (0, _), (1, _)]) G d_M_lookAll_1 rfl (by decide) rfl ?_
  refine ww_sub [1, 2, 0] rfl ?_
  refine lp_M_lookAll_2_ok x1 _ G E (fun s2 h => ?_) FU _ _ h
  exact ww_vret G E d_M_lookAll_31 h
def f_M_household (x1 : Int32) (x2 : Int32) (x3 : Int32) (s : Mem) : RR :=
  mm_cI (f_M_isKiosk x1 s) fun v2 s2 =>
  mm_jn (fun (y31 : Int32) s31 =>
    mm_pf s31 30 0 31 y31 fun s31 =>
    mm_gf s31 30 0 31 fun v35 =>
    if v35 = 0 then (
      mm_st s31 53 0 24 ((((3 : Int32)) * x1) + x2) x3 fun s52 =>
      mm_cV (f_M_lookAll x1 s52) fun s55 =>
      mm_rv s55
    ) else (
      mm_rv s31
    )
  ) (fun r31 =>
  if v2 = 0 then (
    r31 ((1 : Int32)) s2
  ) else (
    mm_cI (f_M_upTo x2 ((2 : Int32)) s2) fun v10 s10 =>
    if v10 = 0 then (
      r31 ((1 : Int32)) s10
    ) else (
      mm_cI (f_M_upTo x3 ((200 : Int32)) s10) fun v20 s20 =>
      if v20 = 0 then (
        r31 ((1 : Int32)) s20
      ) else (
        r31 ((0 : Int32)) s20
      )
    )
  ))
set_option maxRecDepth 100000 in
set_option maxHeartbeats 4000000 in
theorem c_M_household {l : Launch} {K : KK} (x1 : Int32) (x2 : Int32) (x3 : Int32)  (s : Mem) (o : Oc) (q : Mem) (h : f_M_household x1 x2 x3 s = some (o, q)) : Ct l K y_M_household b_M_household 4 none 4 94 [.ref (aa K 30 0), .int x1, .int x2, .int x3] s o q := by
  refine Ct_of (own := "VillageMailModel") (L := [(0, _), (1, _), (2, _), (3, _)]) (by decide +kernel) rfl (Nat.le_of_ble_eq_true rfl) rfl (fun Γ G E => ?_)
  unfold f_M_household at h
  refine ww_aload_n 0 G d_M_household_0 rfl rfl ?_
  refine ww_iload_n 1 G d_M_household_1 rfl rfl ?_
  refine ww_csI (As := [_]) G E cs_M_119 (fun o q h => c_M_isKiosk x1 _ _ _ h) rfl rfl (Nat.le_of_ble_eq_true rfl) d_M_household_2 (by decide) h (fun v2 s2 h => ?_)
  refine ww_jn h (fun (y31 : Int32) (s31 : Mem) => WW K Γ 0 s31 31 [(0, .ref (aa K 30 0)), (1, .int x1), (2, .int x2), (3, .int x3)] [.int y31, .ref (aa K 30 0)]) (fun y31 s31 h => ?_) (fun r31 J31 h => ?_)
  · skip
    refine ww_putf G fs_M_104 (by decide) d_M_household_31 h (fun s31 h => ?_)
    refine ww_aload_n 0 G d_M_household_34 rfl rfl ?_
    refine ww_getf G fs_M_104 (by decide) d_M_household_35 h (fun v35 h => ?_)
    refine ww_ifeq (tgt := 42) G d_M_household_38 (by decide) h (fun h => ?_) (fun h => ?_)
    · skip
      refine ww_aload_n 0 G d_M_household_42 rfl rfl ?_
      refine ww_getr G fs_M_77 (by decide) d_M_household_43 ?_
      refine ww_iconst (v := (3 : Int32)) G d_M_household_46 ic_3 ?_
      refine ww_iload_n 1 G d_M_household_47 rfl rfl ?_
      refine ww_imul G d_M_household_48 ?_
      refine ww_iload_n 2 G d_M_household_49 rfl rfl ?_
      refine ww_iadd G d_M_household_50 ?_
      refine ww_iload_n 3 G d_M_household_51 rfl rfl ?_
      refine ww_iastore G ar_53 (by decide) d_M_household_52 h (fun s52 h => ?_)
      refine ww_aload_n 0 G d_M_household_53 rfl rfl ?_
      refine ww_iload_n 1 G d_M_household_54 rfl rfl ?_
      refine ww_cvV (As := [_]) G E cs_M_177 (by decide) (fun o q h => c_M_lookAll x1 _ _ _ h) rfl rfl (Nat.le_of_ble_eq_true rfl) d_M_household_55 (by decide) h (fun s55 h => ?_)
      exact ww_vret G E d_M_household_58 h
    · skip
      exact ww_vret G E d_M_household_41 h
  refine ww_ifeq (tgt := 30) G d_M_household_5 (by decide) h (fun h => ?_) (fun h => ?_)
  · skip
    refine ww_iconst (v := (1 : Int32)) G d_M_household_30 ic_1 ?_
    exact J31 _ _ h
  · skip
    refine ww_iload_n 2 G d_M_household_8 rfl rfl ?_
    refine ww_iconst (v := (2 : Int32)) G d_M_household_9 ic_2 ?_
    refine ww_csI (As := [_, _]) G E cs_M_108 (fun o q h => c_M_upTo x2 ((2 : Int32)) _ _ _ h) rfl rfl (Nat.le_of_ble_eq_true rfl) d_M_household_10 (by decide) h (fun v10 s10 h => ?_)
    refine ww_ifeq (tgt := 30) G d_M_household_13 (by decide) h (fun h => ?_) (fun h => ?_)
    · skip
      refine ww_iconst (v := (1 : Int32)) G d_M_household_30 ic_1 ?_
      exact J31 _ _ h
    · skip
      refine ww_iload_n 3 G d_M_household_16 rfl rfl ?_
      refine ww_sipush (v := (200 : Int32)) G d_M_household_17 is_200 ?_
      refine ww_csI (As := [_, _]) G E cs_M_108 (fun o q h => c_M_upTo x3 ((200 : Int32)) _ _ _ h) rfl rfl (Nat.le_of_ble_eq_true rfl) d_M_household_20 (by decide) h (fun v20 s20 h => ?_)
      refine ww_ifeq (tgt := 30) G d_M_household_23 (by decide) h (fun h => ?_) (fun h => ?_)
      · skip
        refine ww_iconst (v := (1 : Int32)) G d_M_household_30 ic_1 ?_
        exact J31 _ _ h
      · skip
        refine ww_iconst (v := (0 : Int32)) G d_M_household_26 ic_0 ?_
        refine ww_goto (tgt := 31) G d_M_household_27 (by decide) ?_
        exact J31 _ _ h
def f_M_group (x1 : Int32) (x2 : Int32) (x3 : Int32) (s : Mem) : RR :=
  mm_cI (f_M_isKiosk x1 s) fun v2 s2 =>
  mm_jn (fun (y29 : Int32) s29 =>
    mm_pf s29 30 0 31 y29 fun s29 =>
    mm_gf s29 30 0 31 fun v33 =>
    if v33 = 0 then (
      mm_ld s29 56 0 48 (((((6 : Int32)) * x1) + (((3 : Int32)) * x2)) + x3) fun v65 =>
      mm_jn (fun (y74 : Int32) s74 =>
        mm_sz s74 56 0 48 (((((6 : Int32)) * x1) + (((3 : Int32)) * x2)) + x3) y74 fun s74 =>
        mm_ld s74 56 0 48 (((((6 : Int32)) * x1) + (((3 : Int32)) * x2)) + x3) fun v81 =>
        if v81 = 0 then (
          mm_ld s74 56 0 48 (((((6 : Int32)) * x1) + (((3 : Int32)) * x2)) + x3) fun v96 =>
          mm_rz v96 s74
        ) else (
          mm_cV (f_M_lookAll x1 s74) fun s87 =>
          mm_ld s87 56 0 48 (((((6 : Int32)) * x1) + (((3 : Int32)) * x2)) + x3) fun v96 =>
          mm_rz v96 s87
        )
      ) (fun r74 =>
      if ¬ v65 = 0 then (
        r74 ((0 : Int32)) s29
      ) else (
        r74 ((1 : Int32)) s29
      ))
    ) else (
      mm_rz ((0 : Int32)) s29
    )
  ) (fun r29 =>
  if v2 = 0 then (
    r29 ((1 : Int32)) s2
  ) else (
    mm_cI (f_M_upTo x2 ((1 : Int32)) s2) fun v10 s10 =>
    if v10 = 0 then (
      r29 ((1 : Int32)) s10
    ) else (
      mm_cI (f_M_upTo x3 ((2 : Int32)) s10) fun v18 s18 =>
      if v18 = 0 then (
        r29 ((1 : Int32)) s18
      ) else (
        r29 ((0 : Int32)) s18
      )
    )
  ))
set_option maxRecDepth 100000 in
set_option maxHeartbeats 4000000 in
theorem c_M_group {l : Launch} {K : KK} (x1 : Int32) (x2 : Int32) (x3 : Int32)  (s : Mem) (o : Oc) (q : Mem) (h : f_M_group x1 x2 x3 s = some (o, q)) : Ct l K y_M_group b_M_group 5 (some .boolean) 4 94 [.ref (aa K 30 0), .int x1, .int x2, .int x3] s o q := by
  refine Ct_of (own := "VillageMailModel") (L := [(0, _), (1, _), (2, _), (3, _)]) (by decide +kernel) rfl (Nat.le_of_ble_eq_true rfl) rfl (fun Γ G E => ?_)
  unfold f_M_group at h
  refine ww_aload_n 0 G d_M_group_0 rfl rfl ?_
  refine ww_iload_n 1 G d_M_group_1 rfl rfl ?_
  refine ww_csI (As := [_]) G E cs_M_119 (fun o q h => c_M_isKiosk x1 _ _ _ h) rfl rfl (Nat.le_of_ble_eq_true rfl) d_M_group_2 (by decide) h (fun v2 s2 h => ?_)
  refine ww_jn h (fun (y29 : Int32) (s29 : Mem) => WW K Γ 0 s29 29 [(0, .ref (aa K 30 0)), (1, .int x1), (2, .int x2), (3, .int x3)] [.int y29, .ref (aa K 30 0)]) (fun y29 s29 h => ?_) (fun r29 J29 h => ?_)
  · skip
    refine ww_putf G fs_M_104 (by decide) d_M_group_29 h (fun s29 h => ?_)
    refine ww_aload_n 0 G d_M_group_32 rfl rfl ?_
    refine ww_getf G fs_M_104 (by decide) d_M_group_33 h (fun v33 h => ?_)
    refine ww_ifeq (tgt := 41) G d_M_group_36 (by decide) h (fun h => ?_) (fun h => ?_)
    · skip
      refine ww_bipush (v := (6 : Int32)) G d_M_group_41 ib_6 ?_
      refine ww_iload_n 1 G d_M_group_43 rfl rfl ?_
      refine ww_imul G d_M_group_44 ?_
      refine ww_iconst (v := (3 : Int32)) G d_M_group_45 ic_3 ?_
      refine ww_iload_n 2 G d_M_group_46 rfl rfl ?_
      refine ww_imul G d_M_group_47 ?_
      refine ww_iadd G d_M_group_48 ?_
      refine ww_iload_n 3 G d_M_group_49 rfl rfl ?_
      refine ww_iadd G d_M_group_50 ?_
      refine ww_istore (L' := [(4, _), (0, _), (1, _), (2, _), (3, _)]) G d_M_group_51 (by decide) rfl ?_
      refine ww_aload_n 1 G d_M_group_53 rfl rfl ?_
      refine ww_getr G fs_M_86 (by decide) d_M_group_54 ?_
      refine ww_iload 0 G d_M_group_57 rfl ?_
      refine ww_aload_n 1 G d_M_group_59 rfl rfl ?_
      refine ww_getr G fs_M_86 (by decide) d_M_group_60 ?_
      refine ww_iload 0 G d_M_group_63 rfl ?_
      refine ww_baload G ar_56 (by decide) d_M_group_65 h (fun v65 h => ?_)
      refine ww_jn h (fun (y74 : Int32) (s74 : Mem) => WW K Γ 0 s74 74 [(0, .ref (aa K 30 0)), (1, .int x1), (4, .int (((((6 : Int32)) * x1) + (((3 : Int32)) * x2)) + x3))] [.int y74, .int (((((6 : Int32)) * x1) + (((3 : Int32)) * x2)) + x3), .ref (aa K 56 0)]) (fun y74 s74 h => ?_) (fun r74 J74 h => ?_)
      · skip
        refine ww_bastore G ar_56 (by decide) d_M_group_74 h (fun s74 h => ?_)
        refine ww_aload_n 0 G d_M_group_75 rfl rfl ?_
        refine ww_getr G fs_M_86 (by decide) d_M_group_76 ?_
        refine ww_iload 2 G d_M_group_79 rfl ?_
        refine ww_baload G ar_56 (by decide) d_M_group_81 h (fun v81 h => ?_)
        refine ww_ifeq (tgt := 90) G d_M_group_82 (by decide) h (fun h => ?_) (fun h => ?_)
        · skip
          refine ww_aload_n 0 G d_M_group_90 rfl rfl ?_
          refine ww_getr G fs_M_86 (by decide) d_M_group_91 ?_
          refine ww_iload 2 G d_M_group_94 rfl ?_
          refine ww_baload G ar_56 (by decide) d_M_group_96 h (fun v96 h => ?_)
          exact ww_zret G E d_M_group_97 h
        · skip
          refine ww_aload_n 0 G d_M_group_85 rfl rfl ?_
          refine ww_iload_n 1 G d_M_group_86 rfl rfl ?_
          refine ww_cvV (As := [_]) G E cs_M_177 (by decide) (fun o q h => c_M_lookAll x1 _ _ _ h) rfl rfl (Nat.le_of_ble_eq_true rfl) d_M_group_87 (by decide) h (fun s87 h => ?_)
          refine ww_aload_n 0 G d_M_group_90 rfl rfl ?_
          refine ww_getr G fs_M_86 (by decide) d_M_group_91 ?_
          refine ww_iload 2 G d_M_group_94 rfl ?_
          refine ww_baload G ar_56 (by decide) d_M_group_96 h (fun v96 h => ?_)
          exact ww_zret G E d_M_group_97 h
      refine ww_ifne (tgt := 73) G d_M_group_66 (by decide) h (fun h => ?_) (fun h => ?_)
      · skip
        refine ww_iconst (v := (0 : Int32)) G d_M_group_73 ic_0 ?_
        refine ww_sub [1, 2, 0] rfl ?_
        exact J74 _ _ h
      · skip
        refine ww_iconst (v := (1 : Int32)) G d_M_group_69 ic_1 ?_
        refine ww_goto (tgt := 74) G d_M_group_70 (by decide) ?_
        refine ww_sub [1, 2, 0] rfl ?_
        exact J74 _ _ h
    · skip
      refine ww_iconst (v := (0 : Int32)) G d_M_group_39 ic_0 ?_
      exact ww_zret G E d_M_group_40 h
  refine ww_ifeq (tgt := 28) G d_M_group_5 (by decide) h (fun h => ?_) (fun h => ?_)
  · skip
    refine ww_iconst (v := (1 : Int32)) G d_M_group_28 ic_1 ?_
    exact J29 _ _ h
  · skip
    refine ww_iload_n 2 G d_M_group_8 rfl rfl ?_
    refine ww_iconst (v := (1 : Int32)) G d_M_group_9 ic_1 ?_
    refine ww_csI (As := [_, _]) G E cs_M_108 (fun o q h => c_M_upTo x2 ((1 : Int32)) _ _ _ h) rfl rfl (Nat.le_of_ble_eq_true rfl) d_M_group_10 (by decide) h (fun v10 s10 h => ?_)
    refine ww_ifeq (tgt := 28) G d_M_group_13 (by decide) h (fun h => ?_) (fun h => ?_)
    · skip
      refine ww_iconst (v := (1 : Int32)) G d_M_group_28 ic_1 ?_
      exact J29 _ _ h
    · skip
      refine ww_iload_n 3 G d_M_group_16 rfl rfl ?_
      refine ww_iconst (v := (2 : Int32)) G d_M_group_17 ic_2 ?_
      refine ww_csI (As := [_, _]) G E cs_M_108 (fun o q h => c_M_upTo x3 ((2 : Int32)) _ _ _ h) rfl rfl (Nat.le_of_ble_eq_true rfl) d_M_group_18 (by decide) h (fun v18 s18 h => ?_)
      refine ww_ifeq (tgt := 28) G d_M_group_21 (by decide) h (fun h => ?_) (fun h => ?_)
      · skip
        refine ww_iconst (v := (1 : Int32)) G d_M_group_28 ic_1 ?_
        exact J29 _ _ h
      · skip
        refine ww_iconst (v := (0 : Int32)) G d_M_group_24 ic_0 ?_
        refine ww_goto (tgt := 29) G d_M_group_25 (by decide) ?_
        exact J29 _ _ h
def f_M_key (x1 : Int32) (s : Mem) : RR :=
  mm_pf s 30 0 31 ((0 : Int32)) fun s2 =>
  mm_gf s2 30 0 30 fun v6 =>
  if ¬ v6 = ((32 : Int32)) then (
    mm_gf s2 30 0 30 fun v21 =>
    mm_st s2 57 0 32 v21 (x1 &&& ((255 : Int32))) fun s29 =>
    mm_gf s29 30 0 30 fun v32 =>
    mm_pf s29 30 0 30 (v32 + ((1 : Int32))) fun s37 =>
    mm_rz ((1 : Int32)) s37
  ) else (
    mm_rz ((0 : Int32)) s2
  )
set_option maxRecDepth 100000 in
set_option maxHeartbeats 4000000 in
theorem c_M_key {l : Launch} {K : KK} (x1 : Int32)  (s : Mem) (o : Oc) (q : Mem) (h : f_M_key x1 s = some (o, q)) : Ct l K y_M_key b_M_key 2 (some .boolean) 0 0 [.ref (aa K 30 0), .int x1] s o q := by
  refine Ct_of (own := "VillageMailModel") (L := [(0, _), (1, _)]) (by decide +kernel) rfl (Nat.le_of_ble_eq_true rfl) rfl (fun Γ G E => ?_)
  unfold f_M_key at h
  refine ww_aload_n 0 G d_M_key_0 rfl rfl ?_
  refine ww_iconst (v := (0 : Int32)) G d_M_key_1 ic_0 ?_
  refine ww_putf G fs_M_104 (by decide) d_M_key_2 h (fun s2 h => ?_)
  refine ww_aload_n 0 G d_M_key_5 rfl rfl ?_
  refine ww_getf G fs_M_180 (by decide) d_M_key_6 h (fun v6 h => ?_)
  refine ww_bipush (v := (32 : Int32)) G d_M_key_9 ib_32 ?_
  refine ww_icmpne (tgt := 16) G d_M_key_11 (by decide) h (fun h => ?_) (fun h => ?_)
  · skip
    refine ww_aload_n 0 G d_M_key_16 rfl rfl ?_
    refine ww_getr G fs_M_89 (by decide) d_M_key_17 ?_
    refine ww_aload_n 0 G d_M_key_20 rfl rfl ?_
    refine ww_getf G fs_M_180 (by decide) d_M_key_21 h (fun v21 h => ?_)
    refine ww_iload_n 1 G d_M_key_24 rfl rfl ?_
    refine ww_sipush (v := (255 : Int32)) G d_M_key_25 is_255 ?_
    refine ww_iand G d_M_key_28 ?_
    refine ww_iastore G ar_57 (by decide) d_M_key_29 h (fun s29 h => ?_)
    refine ww_aload_n 0 G d_M_key_30 rfl rfl ?_
    refine ww_dup G d_M_key_31 rfl ?_
    refine ww_getf G fs_M_180 (by decide) d_M_key_32 h (fun v32 h => ?_)
    refine ww_iconst (v := (1 : Int32)) G d_M_key_35 ic_1 ?_
    refine ww_iadd G d_M_key_36 ?_
    refine ww_putf G fs_M_180 (by decide) d_M_key_37 h (fun s37 h => ?_)
    refine ww_iconst (v := (1 : Int32)) G d_M_key_40 ic_1 ?_
    exact ww_zret G E d_M_key_41 h
  · skip
    refine ww_iconst (v := (0 : Int32)) G d_M_key_14 ic_0 ?_
    exact ww_zret G E d_M_key_15 h

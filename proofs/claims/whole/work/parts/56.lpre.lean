-- the law's own beginning: an object of each, the cell for answers
def f_W_pre (k : Mem → RR) (s : Mem) : RR :=
  bb_nw 0 247 0 0 s fun s0 =>
  bb_cV 0 247 214 (f_X_init (kn s0) 214 s0) s0 fun s4 =>
  bb_nw 0 247 30 0 s4 fun s8 =>
  bb_cV 0 247 246 (f_M_init (kn s8) 246 s8) s8 fun s12 =>
  bb_nw 0 247 70 0 s12 k
set_option maxRecDepth 100000 in
set_option maxHeartbeats 4000000 in
theorem f_W_pre_ok {K : KK} {Γ : Cx} {fin : Oc × Mem} {k : Mem → RR} {σ : Mem} (G : GB K Γ b_W_law "VillageMailLaw" 7 11 418) (E : EBd Γ 0 247) (h : f_W_pre k σ = some fin)
    (kk : ∀ s, k s = some fin → WB K Γ s 23 [(0, .ref (aa K 71 0)), (1, .ref (aa K 0 0)), (2, .ref (aa K 30 0)), (3, .ref (aa K 70 0)), (4, .int 0)] []) : WB K Γ σ 0 [(0, .ref (aa K 71 0))] [] := by
  unfold f_W_pre at h
  refine wp_new G E bn_W_8_0 d_W_law_0 h (fun s0 h => ?_)
  refine wb_dup G d_W_law_3 rfl ?_
  refine wp_callI (As := []) G E ci_W_80 (fun q1 h1 k1 => c_X_init _ q1 (by rw [k1]; exact h1)) rfl rfl (Nat.le_of_ble_eq_true rfl) d_W_law_4 (by decide) (Nat.le_refl _) h (fun s4 h => ?_)
  refine wb_astore_n (L' := [(1, _), (0, _)]) G d_W_law_7 rfl (by decide) rfl ?_
  refine wp_new G E bn_W_81_30 d_W_law_8 h (fun s8 h => ?_)
  refine wb_dup G d_W_law_11 rfl ?_
  refine wp_callI (As := []) G E ci_W_83 (fun q1 h1 k1 => c_M_init _ q1 (by rw [k1]; exact h1)) rfl rfl (Nat.le_of_ble_eq_true rfl) d_W_law_12 (by decide) (Nat.le_refl _) h (fun s12 h => ?_)
  refine wb_astore_n (L' := [(2, _), (1, _), (0, _)]) G d_W_law_15 rfl (by decide) rfl ?_
  refine wb_iconst (v := (1 : Int32)) G d_W_law_16 ic_1 ?_
  refine wp_newa G E bi_70 ⟨by decide, by decide, by decide⟩ d_W_law_17 h (fun s17 h => ?_)
  refine wb_astore_n (L' := [(3, _), (2, _), (1, _), (0, _)]) G d_W_law_19 rfl (by decide) rfl ?_
  refine wb_iconst (v := (0 : Int32)) G d_W_law_20 ic_0 ?_
  refine wb_istore (L' := [(4, _), (3, _), (2, _), (1, _), (0, _)]) G d_W_law_21 (by decide) rfl ?_
  refine wb_sub [4, 3, 2, 1, 0] rfl ?_
  exact kk _ h

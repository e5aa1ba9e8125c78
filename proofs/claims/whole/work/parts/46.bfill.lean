def lp_B_fill_5 (F i N : Nat) (x1 x3 : Int32) (k : Mem → RR) : Nat → Int32 → Mem → RR
  | 0, _, _ => none
  | n + 1, x2, s => if x3 ≤ x2 then k s else (bb_st s F i N x2 x1 fun s13 => lp_B_fill_5 F i N x1 x3 k n (x2 + (1 : Int32)) s13)
set_option maxRecDepth 100000 in
set_option maxHeartbeats 4000000 in
theorem lp_B_fill_5_ok {K : KK} {Γ : Cx} {o : Oc} {q : Mem} (F i N : Nat) (ar : AiB F N) (x1 x3 : Int32) (k : Mem → RR) (G : GB K Γ b_A_fill "java/util/Arrays" 4 0 0)
    (Kx : ∀ (s : Mem), k s = some (o, q) → WB K Γ s 20 [] []) :
    ∀ (n : Nat) (x2 : Int32) (s : Mem), lp_B_fill_5 F i N x1 x3 k n x2 s = some (o, q) → WB K Γ s 5 [(0, .ref (aa K F i)), (1, .int x1), (2, .int x2), (3, .int x3)] [] := by
  intro n
  induction n with
  | zero => intro _ _ h; exact nomatch h
  | succ n ih =>
    intro x2 s h
    unfold lp_B_fill_5 at h
    refine wb_iload_n 2 G d_A_fill_5 rfl rfl ?_
    refine wb_iload_n 3 G d_A_fill_6 rfl rfl ?_
    refine wb_icmpge (tgt := 20) G d_A_fill_7 (by decide) h (fun h => ?_) (fun h => ?_)
    · refine wb_sub [] rfl ?_
      exact Kx _ h
    · refine wb_aload_n 0 G d_A_fill_10 rfl rfl ?_
      refine wb_iload_n 2 G d_A_fill_11 rfl rfl ?_
      refine wb_iload_n 1 G d_A_fill_12 rfl rfl ?_
      refine wb_iastore G ar d_A_fill_13 h (fun s13 h => ?_)
      refine wb_iinc 2 (L' := [(2, _), (0, _), (1, _), (3, _)]) G d_A_fill_14 rfl ic_1 (by decide) rfl ?_
      refine wb_goto (tgt := 5) G d_A_fill_17 (by decide) ?_
      refine wb_sub [1, 2, 0, 3] rfl ?_
      exact ih _ _ h
def f_B_fill (F i N : Nat) (x1 : Int32) (s : Mem) : RR := bb_on s F i (mm_lp (fun kk => lp_B_fill_5 F i N x1 (nI N) kk FU (0 : Int32) s) fun s5 => mm_rv s5)
set_option maxRecDepth 100000 in
set_option maxHeartbeats 4000000 in
theorem c_B_fill {l : Launch} {K : KK} (F i N : Nat) (ar : AiB F N) {x1 : Int32} {s : Mem} (q : Mem) (h : f_B_fill F i N x1 s = some (.inr none, q)) : CtB l K y_A_fill b_A_fill 4 0 0 [.ref (aa K F i), .int x1] s q := by
  refine CtB_of (own := "java/util/Arrays") (nm := "fill") (L := [(0, _), (1, _)]) (by decide +kernel) ⟨rfl, rfl⟩ (Nat.le_of_ble_eq_true rfl) rfl (fun Γ hk G E => ?_)
  unfold f_B_fill at h
  refine wb_iconst (v := (0 : Int32)) G d_A_fill_0 ic_0 ?_
  refine wb_istore_n (L' := [(2, _), (0, _), (1, _)]) G d_A_fill_1 rfl (by decide) rfl ?_
  refine wb_aload_n 1 G d_A_fill_2 rfl rfl ?_
  refine wb_alen G ar d_A_fill_3 h (fun h => ?_)
  refine wb_istore_n (L' := [(3, _), (2, _), (0, _), (1, _)]) G d_A_fill_4 rfl (by decide) rfl ?_
  refine wb_sub [2, 3, 1, 0] rfl ?_
  refine lp_B_fill_5_ok F i N ar _ _ _ G (fun s5 h => ?_) FU _ _ h
  exact wb_vret G E d_A_fill_20 hk h

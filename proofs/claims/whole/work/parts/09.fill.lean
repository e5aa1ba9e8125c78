section VFill
theorem ww_alenI {K : KK} {Γ : Cx} {cc : ByteArray} {own : String} {nL fr lo n : Nat} {σ : Mem} {pc : Nat} {L : List (Nat × Value)} {S : List Value} {F i N : Nat} (G : Good K Γ cc own nL fr lo) (ar : ArI F N) (hi : i < cnt F) (d : decode cc pc = .ok (.arraylength, 1)) (k : WW K Γ n σ (pc + 1) L (.int (nI N) :: S)) : WW K Γ n σ pc L (.ref (aa K F i) :: S) := by
  obtain ⟨p, l, e, R, s, m, args, below, meth, c, Q, c0, s0⟩ := Γ
  obtain ⟨hx, hb, hml, hown, hts, hK, hR, hlk, hz, hst, hU, hN⟩ := G
  intro H locs ls hl hP hD hS
  exact va_alen (x := (N, .inl (σ.1 F i))) hx hb hK hP (tb_pos F i) 0 ((FL_at ar.1 hi).trans (by show some (_, ctR K F i (σ.1 F i) (σ.2 F i)) = _; rw [ar.2])) rfl rfl d (k H locs ls hl hP hD hS)
theorem ww_alenJ {K : KK} {Γ : Cx} {cc : ByteArray} {own : String} {nL fr lo n : Nat} {σ : Mem} {pc : Nat} {L : List (Nat × Value)} {S : List Value} {F i N : Nat} (G : Good K Γ cc own nL fr lo) (ar : ArJ F N) (hi : i < cnt F) (d : decode cc pc = .ok (.arraylength, 1)) (k : WW K Γ n σ (pc + 1) L (.int (nI N) :: S)) : WW K Γ n σ pc L (.ref (aa K F i) :: S) := by
  obtain ⟨p, l, e, R, s, m, args, below, meth, c, Q, c0, s0⟩ := Γ
  obtain ⟨hx, hb, hml, hown, hts, hK, hR, hlk, hz, hst, hU, hN⟩ := G
  intro H locs ls hl hP hD hS
  exact va_alen (x := (N, .inr (.inl (σ.2 F i)))) hx hb hK hP (tb_pos F i) 1 ((FL_at ar.1 hi).trans (by show some (_, ctR K F i (σ.1 F i) (σ.2 F i)) = _; rw [ar.2])) rfl rfl d (k H locs ls hl hP hD hS)
theorem d_A_fill_0 : decode b_A_fill 0 = .ok (.iconst 0, 1) := by decide +kernel
theorem d_A_fill_1 : decode b_A_fill 1 = .ok (.istore_n 2, 1) := by decide +kernel
theorem d_A_fill_2 : decode b_A_fill 2 = .ok (.aload_n 0, 1) := by decide +kernel
theorem d_A_fill_3 : decode b_A_fill 3 = .ok (.arraylength, 1) := by decide +kernel
theorem d_A_fill_4 : decode b_A_fill 4 = .ok (.istore_n 3, 1) := by decide +kernel
theorem d_A_fill_5 : decode b_A_fill 5 = .ok (.iload_n 2, 1) := by decide +kernel
theorem d_A_fill_6 : decode b_A_fill 6 = .ok (.iload_n 3, 1) := by decide +kernel
theorem d_A_fill_7 : decode b_A_fill 7 = .ok (.if_icmp .ge 13, 3) := by decide +kernel
theorem d_A_fill_10 : decode b_A_fill 10 = .ok (.aload_n 0, 1) := by decide +kernel
theorem d_A_fill_11 : decode b_A_fill 11 = .ok (.iload_n 2, 1) := by decide +kernel
theorem d_A_fill_12 : decode b_A_fill 12 = .ok (.iload_n 1, 1) := by decide +kernel
theorem d_A_fill_13 : decode b_A_fill 13 = .ok (.iastore, 1) := by decide +kernel
theorem d_A_fill_14 : decode b_A_fill 14 = .ok (.iinc 2 1, 3) := by decide +kernel
theorem d_A_fill_17 : decode b_A_fill 17 = .ok (.goto (-12), 3) := by decide +kernel
theorem d_A_fill_20 : decode b_A_fill 20 = .ok (.return_, 1) := by decide +kernel
def lp_A_fill_5 (F i N : Nat) (x1 x3 : Int32) (k : Mem → RR) : Nat → Int32 → Mem → RR
  | 0, _, _ => none
  | n + 1, x2, s => if x3 ≤ x2 then k s else (mm_st s F i N x2 x1 fun s13 => lp_A_fill_5 F i N x1 x3 k n (x2 + (1 : Int32)) s13)
set_option maxRecDepth 100000 in
set_option maxHeartbeats 4000000 in
theorem lp_A_fill_5_ok {K : KK} {Γ : Cx} {o : Oc} {q : Mem} (F i N : Nat) (ar : ArI F N) (hi : i < cnt F) (x1 x3 : Int32) (k : Mem → RR) (G : Good K Γ b_A_fill "java/util/Arrays" 4 0 0)
    (Kx : ∀ (s : Mem), k s = some (o, q) → WW K Γ 0 s 20 [] []) :
    ∀ (n : Nat) (x2 : Int32) (s : Mem), lp_A_fill_5 F i N x1 x3 k n x2 s = some (o, q) → WW K Γ 0 s 5 [(0, .ref (aa K F i)), (1, .int x1), (2, .int x2), (3, .int x3)] [] := by
  intro n
  induction n with
  | zero => intro _ _ h; exact nomatch h
  | succ n ih =>
    intro x2 s h
    unfold lp_A_fill_5 at h
    refine ww_iload_n 2 G d_A_fill_5 rfl rfl ?_
    refine ww_iload_n 3 G d_A_fill_6 rfl rfl ?_
    refine ww_icmpge (tgt := 20) G d_A_fill_7 (by decide) h (fun h => ?_) (fun h => ?_)
    · refine ww_sub [] rfl ?_
      exact Kx _ h
    · refine ww_aload_n 0 G d_A_fill_10 rfl rfl ?_
      refine ww_iload_n 2 G d_A_fill_11 rfl rfl ?_
      refine ww_iload_n 1 G d_A_fill_12 rfl rfl ?_
      refine ww_iastore G ar hi d_A_fill_13 h (fun s13 h => ?_)
      refine ww_iinc 2 (L' := [(2, _), (0, _), (1, _), (3, _)]) G d_A_fill_14 rfl ic_1 (by decide) rfl ?_
      refine ww_goto (tgt := 5) G d_A_fill_17 (by decide) ?_
      refine ww_sub [1, 2, 0, 3] rfl ?_
      exact ih _ _ h
def f_A_fill (F i N : Nat) (x1 : Int32) (s : Mem) : RR := mm_lp (fun kk => lp_A_fill_5 F i N x1 (nI N) kk FU (0 : Int32) s) fun s5 => mm_rv s5
set_option maxRecDepth 100000 in
set_option maxHeartbeats 4000000 in
theorem c_A_fill {l : Launch} {K : KK} (F i N : Nat) (ar : ArI F N) (hi : i < cnt F) {x1 : Int32} {s : Mem} (o : Oc) (q : Mem) (h : f_A_fill F i N x1 s = some (o, q)) : Ct l K y_A_fill b_A_fill 4 none 0 0 [.ref (aa K F i), .int x1] s o q := by
  refine Ct_of (own := "java/util/Arrays") (L := [(0, _), (1, _)]) (by decide +kernel) rfl (Nat.le_of_ble_eq_true rfl) rfl (fun Γ G E => ?_)
  unfold f_A_fill at h
  refine ww_iconst (v := (0 : Int32)) G d_A_fill_0 ic_0 ?_
  refine ww_istore_n (L' := [(2, _), (0, _), (1, _)]) G d_A_fill_1 rfl (by decide) rfl ?_
  refine ww_aload_n 1 G d_A_fill_2 rfl rfl ?_
  refine ww_alenI G ar hi d_A_fill_3 ?_
  refine ww_istore_n (L' := [(3, _), (2, _), (0, _), (1, _)]) G d_A_fill_4 rfl (by decide) rfl ?_
  refine ww_sub [2, 3, 1, 0] rfl ?_
  refine lp_A_fill_5_ok F i N ar hi _ _ _ G (fun s5 h => ?_) FU _ _ h
  exact ww_vret G E d_A_fill_20 h
theorem d_A_fillJ_0 : decode b_A_fillJ 0 = .ok (.iconst 0, 1) := by decide +kernel
theorem d_A_fillJ_1 : decode b_A_fillJ 1 = .ok (.istore_n 3, 1) := by decide +kernel
theorem d_A_fillJ_2 : decode b_A_fillJ 2 = .ok (.aload_n 0, 1) := by decide +kernel
theorem d_A_fillJ_3 : decode b_A_fillJ 3 = .ok (.arraylength, 1) := by decide +kernel
theorem d_A_fillJ_4 : decode b_A_fillJ 4 = .ok (.istore 4, 2) := by decide +kernel
theorem d_A_fillJ_6 : decode b_A_fillJ 6 = .ok (.iload_n 3, 1) := by decide +kernel
theorem d_A_fillJ_7 : decode b_A_fillJ 7 = .ok (.iload 4, 2) := by decide +kernel
theorem d_A_fillJ_9 : decode b_A_fillJ 9 = .ok (.if_icmp .ge 13, 3) := by decide +kernel
theorem d_A_fillJ_12 : decode b_A_fillJ 12 = .ok (.aload_n 0, 1) := by decide +kernel
theorem d_A_fillJ_13 : decode b_A_fillJ 13 = .ok (.iload_n 3, 1) := by decide +kernel
theorem d_A_fillJ_14 : decode b_A_fillJ 14 = .ok (.lload_n 1, 1) := by decide +kernel
theorem d_A_fillJ_15 : decode b_A_fillJ 15 = .ok (.lastore, 1) := by decide +kernel
theorem d_A_fillJ_16 : decode b_A_fillJ 16 = .ok (.iinc 3 1, 3) := by decide +kernel
theorem d_A_fillJ_19 : decode b_A_fillJ 19 = .ok (.goto (-13), 3) := by decide +kernel
theorem d_A_fillJ_22 : decode b_A_fillJ 22 = .ok (.return_, 1) := by decide +kernel
def lp_A_fillJ_6 (F i N : Nat) (x1 : Int64) (x4 : Int32) (k : Mem → RR) : Nat → Int32 → Mem → RR
  | 0, _, _ => none
  | n + 1, x3, s => if x4 ≤ x3 then k s else (mm_stj s F i N x3 x1 fun s15 => lp_A_fillJ_6 F i N x1 x4 k n (x3 + (1 : Int32)) s15)
set_option maxRecDepth 100000 in
set_option maxHeartbeats 4000000 in
theorem lp_A_fillJ_6_ok {K : KK} {Γ : Cx} {o : Oc} {q : Mem} (F i N : Nat) (ar : ArJ F N) (hi : i < cnt F) (x1 : Int64) (x4 : Int32) (k : Mem → RR) (G : Good K Γ b_A_fillJ "java/util/Arrays" 5 0 0)
    (Kx : ∀ (s : Mem), k s = some (o, q) → WW K Γ 0 s 22 [] []) :
    ∀ (n : Nat) (x3 : Int32) (s : Mem), lp_A_fillJ_6 F i N x1 x4 k n x3 s = some (o, q) → WW K Γ 0 s 6 [(0, .ref (aa K F i)), (1, .long x1), (3, .int x3), (4, .int x4)] [] := by
  intro n
  induction n with
  | zero => intro _ _ h; exact nomatch h
  | succ n ih =>
    intro x3 s h
    unfold lp_A_fillJ_6 at h
    refine ww_iload_n 2 G d_A_fillJ_6 rfl rfl ?_
    refine ww_iload 3 G d_A_fillJ_7 rfl ?_
    refine ww_icmpge (tgt := 22) G d_A_fillJ_9 (by decide) h (fun h => ?_) (fun h => ?_)
    · refine ww_sub [] rfl ?_
      exact Kx _ h
    · refine ww_aload_n 0 G d_A_fillJ_12 rfl rfl ?_
      refine ww_iload_n 2 G d_A_fillJ_13 rfl rfl ?_
      refine ww_lload_n 1 G d_A_fillJ_14 rfl rfl ?_
      refine ww_lastore G ar hi d_A_fillJ_15 h (fun s15 h => ?_)
      refine ww_iinc 2 (L' := [(3, _), (0, _), (1, _), (4, _)]) G d_A_fillJ_16 rfl ic_1 (by decide) rfl ?_
      refine ww_goto (tgt := 6) G d_A_fillJ_19 (by decide) ?_
      refine ww_sub [1, 2, 0, 3] rfl ?_
      exact ih _ _ h
def f_A_fillJ (F i N : Nat) (x1 : Int64) (s : Mem) : RR := mm_lp (fun kk => lp_A_fillJ_6 F i N x1 (nI N) kk FU (0 : Int32) s) fun s6 => mm_rv s6
set_option maxRecDepth 100000 in
set_option maxHeartbeats 4000000 in
theorem c_A_fillJ {l : Launch} {K : KK} (F i N : Nat) (ar : ArJ F N) (hi : i < cnt F) {x1 : Int64} {s : Mem} (o : Oc) (q : Mem) (h : f_A_fillJ F i N x1 s = some (o, q)) : Ct l K y_A_fillJ b_A_fillJ 5 none 0 0 [.ref (aa K F i), .long x1] s o q := by
  refine Ct_of (own := "java/util/Arrays") (L := [(0, _), (1, _)]) (by decide +kernel) rfl (Nat.le_of_ble_eq_true rfl) rfl (fun Γ G E => ?_)
  unfold f_A_fillJ at h
  refine ww_iconst (v := (0 : Int32)) G d_A_fillJ_0 ic_0 ?_
  refine ww_istore_n (L' := [(3, _), (0, _), (1, _)]) G d_A_fillJ_1 rfl (by decide) rfl ?_
  refine ww_aload_n 1 G d_A_fillJ_2 rfl rfl ?_
  refine ww_alenJ G ar hi d_A_fillJ_3 ?_
  refine ww_istore (L' := [(4, _), (3, _), (0, _), (1, _)]) G d_A_fillJ_4 (by decide) rfl ?_
  refine ww_sub [2, 3, 1, 0] rfl ?_
  refine lp_A_fillJ_6_ok F i N ar hi _ _ _ G (fun s6 h => ?_) FU _ _ h
  exact ww_vret G E d_A_fillJ_22 h
end VFill

-- the constructors, whole
section
variable {N kB kE F i G j q : Nat} {W : Nat → Nat → Nat → Int32} {σ : Mem}
theorem nwpr (h : Iv N W σ) (h1 : kB ≤ N ∧ N < kE ∧ tb_ord[N]? = some (F, i)) (hN : N < 900) (z : ∀ k, W F i k = 0) (h2 : tb_op G j < N ∧ G < 72 ∧ j < cnt G) : ∃ σ', (∀ K, (bb_nw kB kE F i σ fun s => bb_pr s G j q K) = K σ') ∧ Iv (N + 1) (up W G j q 1) σ' := by
  have g := h.zr (F := F) (i := i) hN z
  refine ⟨mm_wI (bb_zr σ F i) G j q 1, fun K => ?_, g.wr (by omega)⟩
  rw [nw_ok h h1, pr_ok g ⟨by omega, h2.2⟩]
theorem pr1 (h : Iv N W σ) (h2 : tb_op G j < N ∧ G < 72 ∧ j < cnt G) : ∃ σ', (∀ K, bb_pr σ G j q K = K σ') ∧ Iv N (up W G j q 1) σ' := ⟨mm_wI σ G j q 1, fun K => pr_ok h h2, h.wr (by omega)⟩
theorem nw1 (h : Iv N W σ) (h1 : kB ≤ N ∧ N < kE ∧ tb_ord[N]? = some (F, i)) (hN : N < 900) (z : ∀ k, W F i k = 0) : ∃ σ', (∀ K, bb_nw kB kE F i σ K = K σ') ∧ Iv (N + 1) W σ' := ⟨bb_zr σ F i, fun K => nw_ok h h1, h.zr hN z⟩
end
def V0 : Nat → Nat → Nat → Int32 := fun _ _ _ => 0
def V3 : Nat → Nat → Nat → Int32 := up (up (up (up (up V0 1 7 0 1) 1 7 1 1) 1 7 2 1) 0 0 1 1) 0 0 2 1
def V4 : Nat → Nat → Nat → Int32 := up (wB V3 7) 0 0 4 1
def V5 : Nat → Nat → Nat → Int32 := up (wC V4 12) 0 0 5 1
def V6 : Nat → Nat → Nat → Int32 := up (wD V5 8 0) 0 0 6 1
def V7 : Nat → Nat → Nat → Int32 := up (wE V6 16) 0 0 8 1
def V8 : Nat → Nat → Nat → Int32 := up (up (up (up V7 22 0 0 1) 22 0 1 1) 22 0 2 1) 0 0 10 1
def V9 : Nat → Nat → Nat → Int32 := up (up (up (up V8 22 1 0 1) 22 1 1 1) 22 1 2 1) 0 0 11 1
def VX : Nat → Nat → Nat → Int32 := up (up (up (up V9 26 0 0 1) 0 0 12 1) 26 1 0 1) 0 0 13 1
theorem X_init_ok {s : Mem} (h : Iv 1 V0 s) : ∃ σ', f_X_init (kn s) 214 s = mm_rv σ' ∧ Iv 214 VX σ' := by
  rw [h.cn]
  have t : tb_ord[1]? = some (1, 7) ∧ tb_ord[2]? = some (2, 7) ∧ tb_ord[2 + 1]? = some (3, 7) ∧ tb_ord[2 + 2]? = some (4, 7) ∧ tb_ord[5]? = some (5, 0) ∧ tb_ord[34]? = some (6, 0) ∧ tb_ord[95]? = some (12, 0) ∧ tb_ord[168]? = some (18, 0) ∧ tb_ord[201]? = some (21, 0) := by decide +kernel
  have u : tb_ord[202]? = some (22, 0) ∧ tb_ord[203]? = some (23, 0) ∧ tb_ord[203 + 1]? = some (24, 0) ∧ tb_ord[203 + 2]? = some (25, 0) ∧ tb_ord[206]? = some (22, 1) ∧ tb_ord[207]? = some (23, 1) ∧ tb_ord[207 + 1]? = some (24, 1) ∧ tb_ord[207 + 2]? = some (25, 1) ∧ tb_ord[210]? = some (26, 0) ∧ tb_ord[211]? = some (27, 0) ∧ tb_ord[212]? = some (26, 1) ∧ tb_ord[213]? = some (27, 1) := by decide +kernel
  obtain ⟨o0, o5, o6, o12, o18, o17, o220, o221, o260, o261, _, _⟩ := tbs
  obtain ⟨s1, e1, g1⟩ := nw1 (kB := 1) (kE := 214) (F := 1) (i := 7) h ⟨by decide, by decide, t.1⟩ (by decide) (fun _ => rfl)
  obtain ⟨s2, e2, g2⟩ := T_init (i := 7) g1 (by decide) t.2.1 t.2.2.1 t.2.2.2.1 (by rw [o17]; decide) (by decide) (fun _ => rfl) (fun _ => rfl) (fun _ => rfl)
  obtain ⟨s3, e3, g3⟩ := pr1 (G := 0) (j := 0) (q := 1) g2 ⟨by rw [o0]; decide, by decide, by decide⟩
  obtain ⟨s4, e4, g4⟩ := nwpr (kB := 1) (kE := 214) (F := 5) (i := 0) (G := 0) (j := 0) (q := 2) g3 ⟨by decide, by decide, t.2.2.2.2.1⟩ (by decide) (fun _ => rfl) ⟨by rw [o0]; decide, by decide, by decide⟩
  have g4' : Iv 6 (wB V3 0) s4 := g4.to (fun F i k _ => by unfold wB; rw [if_neg (by omega), if_neg (by omega)]; rfl)
  have z1 : ∀ i k, i < 7 → V3 1 i k = 0 := fun i k hi => by unfold V3; rw [up_no (by omega), up_no (by omega), up_no (by omega), up_no (by omega), up_no (by omega)]; rfl
  obtain ⟨s5, e5, g5⟩ := X26_lp (W := V3) (by decide) z1 (fun _ _ => rfl) (fun _ _ => rfl) (fun _ _ => rfl) (kk := fun s26 =>
      bb_nw 1 214 6 0 s26 fun s54 =>
      bb_pr s54 0 0 4 fun s57 =>
      mm_lp (fun kk => lp_X_init_62 1 214 kk FU ((0 : Int32)) s57) fun s62 =>
      bb_nw 1 214 12 0 s62 fun s103 =>
      bb_pr s103 0 0 5 fun s106 =>
      mm_lp (fun kk => lp_X_init_111 1 214 kk FU ((0 : Int32)) s106) fun s111 =>
      bb_nw 1 214 18 0 s111 fun s139 =>
      bb_pr s139 0 0 6 fun s142 =>
      mm_lp (fun kk => lp_X_init_147 1 214 kk FU ((0 : Int32)) s142) fun s147 =>
      bb_nw 1 214 21 0 s147 fun s174 =>
      bb_pr s174 0 0 8 fun s176 =>
      bb_nw 1 214 22 0 s176 fun s180 =>
      bb_cV 1 214 (kn s180 + 3) (f_R_init 0 (kn s180) (kn s180 + 3) s180) s180 fun s184 =>
      bb_pr s184 0 0 10 fun s187 =>
      bb_nw 1 214 22 1 s187 fun s191 =>
      bb_cV 1 214 (kn s191 + 3) (f_R_init 1 (kn s191) (kn s191 + 3) s191) s191 fun s195 =>
      bb_pr s195 0 0 11 fun s198 =>
      bb_nw 1 214 26 0 s198 fun s202 =>
      bb_cV 1 214 (kn s202 + 1) (f_O_init 0 (kn s202) (kn s202 + 1) s202) s202 fun s206 =>
      bb_pr s206 0 0 12 fun s209 =>
      bb_nw 1 214 26 1 s209 fun s213 =>
      bb_cV 1 214 (kn s213 + 1) (f_O_init 1 (kn s213) (kn s213 + 1) s213) s213 fun s217 =>
      bb_pr s217 0 0 13 fun s220 =>
      mm_rv s220) 7 FU 0 s4 (by omega) (by unfold FU; omega) g4'
  obtain ⟨s6, e6, g6⟩ := nwpr (kB := 1) (kE := 214) (F := 6) (i := 0) (G := 0) (j := 0) (q := 4) g5 ⟨by decide, by decide, t.2.2.2.2.2.1⟩ (by decide) (fun _ => rfl) ⟨by rw [o0]; decide, by decide, by decide⟩
  have g6' : Iv 35 (wC V4 0) s6 := g6.to (fun F i k _ => by unfold wC; rw [if_neg (by omega), if_neg (by omega), if_neg (by omega), if_neg (by omega)]; rfl)
  obtain ⟨s7, e7, g7⟩ := X62_lp (W := V4) (by decide) (fun _ _ => rfl) (fun _ _ => rfl) (fun _ _ => rfl) (fun _ _ => rfl) (fun _ _ => rfl) (kk := fun s62 =>
      bb_nw 1 214 12 0 s62 fun s103 =>
      bb_pr s103 0 0 5 fun s106 =>
      mm_lp (fun kk => lp_X_init_111 1 214 kk FU ((0 : Int32)) s106) fun s111 =>
      bb_nw 1 214 18 0 s111 fun s139 =>
      bb_pr s139 0 0 6 fun s142 =>
      mm_lp (fun kk => lp_X_init_147 1 214 kk FU ((0 : Int32)) s142) fun s147 =>
      bb_nw 1 214 21 0 s147 fun s174 =>
      bb_pr s174 0 0 8 fun s176 =>
      bb_nw 1 214 22 0 s176 fun s180 =>
      bb_cV 1 214 (kn s180 + 3) (f_R_init 0 (kn s180) (kn s180 + 3) s180) s180 fun s184 =>
      bb_pr s184 0 0 10 fun s187 =>
      bb_nw 1 214 22 1 s187 fun s191 =>
      bb_cV 1 214 (kn s191 + 3) (f_R_init 1 (kn s191) (kn s191 + 3) s191) s191 fun s195 =>
      bb_pr s195 0 0 11 fun s198 =>
      bb_nw 1 214 26 0 s198 fun s202 =>
      bb_cV 1 214 (kn s202 + 1) (f_O_init 0 (kn s202) (kn s202 + 1) s202) s202 fun s206 =>
      bb_pr s206 0 0 12 fun s209 =>
      bb_nw 1 214 26 1 s209 fun s213 =>
      bb_cV 1 214 (kn s213 + 1) (f_O_init 1 (kn s213) (kn s213 + 1) s213) s213 fun s217 =>
      bb_pr s217 0 0 13 fun s220 =>
      mm_rv s220) 12 FU 0 s6 (by omega) (by unfold FU; omega) g6'
  obtain ⟨s8, e8, g8⟩ := nwpr (kB := 1) (kE := 214) (F := 12) (i := 0) (G := 0) (j := 0) (q := 5) g7 ⟨by decide, by decide, t.2.2.2.2.2.2.1⟩ (by decide) (fun _ => rfl) ⟨by rw [o0]; decide, by decide, by decide⟩
  have g8' : Iv 96 (wD V5 0 0) s8 := g8.to (fun F i k _ => by unfold wD; rw [if_neg (by omega), if_neg (by omega), if_neg (by omega), if_neg (by omega), if_neg (by omega), if_neg (by omega)]; rfl)
  obtain ⟨s9, e9, g9⟩ := X111_lp (W := V5) (by decide) (fun _ => rfl) (fun _ _ => rfl) (fun _ _ => rfl) (fun _ _ => rfl) (fun _ _ => rfl) (fun _ _ => rfl) (kk := fun s111 =>
      bb_nw 1 214 18 0 s111 fun s139 =>
      bb_pr s139 0 0 6 fun s142 =>
      mm_lp (fun kk => lp_X_init_147 1 214 kk FU ((0 : Int32)) s142) fun s147 =>
      bb_nw 1 214 21 0 s147 fun s174 =>
      bb_pr s174 0 0 8 fun s176 =>
      bb_nw 1 214 22 0 s176 fun s180 =>
      bb_cV 1 214 (kn s180 + 3) (f_R_init 0 (kn s180) (kn s180 + 3) s180) s180 fun s184 =>
      bb_pr s184 0 0 10 fun s187 =>
      bb_nw 1 214 22 1 s187 fun s191 =>
      bb_cV 1 214 (kn s191 + 3) (f_R_init 1 (kn s191) (kn s191 + 3) s191) s191 fun s195 =>
      bb_pr s195 0 0 11 fun s198 =>
      bb_nw 1 214 26 0 s198 fun s202 =>
      bb_cV 1 214 (kn s202 + 1) (f_O_init 0 (kn s202) (kn s202 + 1) s202) s202 fun s206 =>
      bb_pr s206 0 0 12 fun s209 =>
      bb_nw 1 214 26 1 s209 fun s213 =>
      bb_cV 1 214 (kn s213 + 1) (f_O_init 1 (kn s213) (kn s213 + 1) s213) s213 fun s217 =>
      bb_pr s217 0 0 13 fun s220 =>
      mm_rv s220) 8 FU 0 s8 (by omega) (by unfold FU; omega) g8'
  obtain ⟨s10, e10, g10⟩ := nwpr (kB := 1) (kE := 214) (F := 18) (i := 0) (G := 0) (j := 0) (q := 6) g9 ⟨by decide, by decide, t.2.2.2.2.2.2.2.1⟩ (by decide) (fun _ => rfl) ⟨by rw [o0]; decide, by decide, by decide⟩
  have g10' : Iv 169 (wE V6 0) s10 := g10.to (fun F i k _ => by unfold wE; rw [if_neg (by omega), if_neg (by omega)]; rfl)
  obtain ⟨s11, e11, g11⟩ := X147_lp (W := V6) (by decide) (fun _ => rfl) (fun _ _ => rfl) (fun _ _ => rfl) (kk := fun s147 =>
      bb_nw 1 214 21 0 s147 fun s174 =>
      bb_pr s174 0 0 8 fun s176 =>
      bb_nw 1 214 22 0 s176 fun s180 =>
      bb_cV 1 214 (kn s180 + 3) (f_R_init 0 (kn s180) (kn s180 + 3) s180) s180 fun s184 =>
      bb_pr s184 0 0 10 fun s187 =>
      bb_nw 1 214 22 1 s187 fun s191 =>
      bb_cV 1 214 (kn s191 + 3) (f_R_init 1 (kn s191) (kn s191 + 3) s191) s191 fun s195 =>
      bb_pr s195 0 0 11 fun s198 =>
      bb_nw 1 214 26 0 s198 fun s202 =>
      bb_cV 1 214 (kn s202 + 1) (f_O_init 0 (kn s202) (kn s202 + 1) s202) s202 fun s206 =>
      bb_pr s206 0 0 12 fun s209 =>
      bb_nw 1 214 26 1 s209 fun s213 =>
      bb_cV 1 214 (kn s213 + 1) (f_O_init 1 (kn s213) (kn s213 + 1) s213) s213 fun s217 =>
      bb_pr s217 0 0 13 fun s220 =>
      mm_rv s220) 16 FU 0 s10 (by omega) (by unfold FU; omega) g10'
  obtain ⟨s12, e12, g12⟩ := nwpr (kB := 1) (kE := 214) (F := 21) (i := 0) (G := 0) (j := 0) (q := 8) g11 ⟨by decide, by decide, t.2.2.2.2.2.2.2.2⟩ (by decide) (fun _ => rfl) ⟨by rw [o0]; decide, by decide, by decide⟩
  obtain ⟨s13, e13, g13⟩ := nw1 (kB := 1) (kE := 214) (F := 22) (i := 0) g12 ⟨by decide, by decide, u.1⟩ (by decide) (fun _ => rfl)
  obtain ⟨s14, e14, g14⟩ := R_init (i := 0) g13 (by decide) u.2.1 u.2.2.1 u.2.2.2.1 (by rw [o220]; decide) (by decide) (fun _ => rfl) (fun _ => rfl) (fun _ => rfl)
  obtain ⟨s15, e15, g15⟩ := pr1 (G := 0) (j := 0) (q := 10) g14 ⟨by rw [o0]; decide, by decide, by decide⟩
  obtain ⟨s16, e16, g16⟩ := nw1 (kB := 1) (kE := 214) (F := 22) (i := 1) g15 ⟨by decide, by decide, u.2.2.2.2.1⟩ (by decide) (fun _ => rfl)
  obtain ⟨s17, e17, g17⟩ := R_init (i := 1) g16 (by decide) u.2.2.2.2.2.1 u.2.2.2.2.2.2.1 u.2.2.2.2.2.2.2.1 (by rw [o221]; decide) (by decide) (fun _ => rfl) (fun _ => rfl) (fun _ => rfl)
  obtain ⟨s18, e18, g18⟩ := pr1 (G := 0) (j := 0) (q := 11) g17 ⟨by rw [o0]; decide, by decide, by decide⟩
  obtain ⟨s19, e19, g19⟩ := nw1 (kB := 1) (kE := 214) (F := 26) (i := 0) g18 ⟨by decide, by decide, u.2.2.2.2.2.2.2.2.1⟩ (by decide) (fun _ => rfl)
  obtain ⟨s20, e20, g20⟩ := O_init (i := 0) g19 (by decide) u.2.2.2.2.2.2.2.2.2.1 (by rw [o260]; decide) (by decide) (fun _ => rfl)
  obtain ⟨s21, e21, g21⟩ := pr1 (G := 0) (j := 0) (q := 12) g20 ⟨by rw [o0]; decide, by decide, by decide⟩
  obtain ⟨s22, e22, g22⟩ := nw1 (kB := 1) (kE := 214) (F := 26) (i := 1) g21 ⟨by decide, by decide, u.2.2.2.2.2.2.2.2.2.2.1⟩ (by decide) (fun _ => rfl)
  obtain ⟨s23, e23, g23⟩ := O_init (i := 1) g22 (by decide) u.2.2.2.2.2.2.2.2.2.2.2 (by rw [o261]; decide) (by decide) (fun _ => rfl)
  obtain ⟨s24, e24, g24⟩ := pr1 (G := 0) (j := 0) (q := 13) g23 ⟨by rw [o0]; decide, by decide, by decide⟩
  refine ⟨s24, ?_, g24⟩
  unfold f_X_init
  rw [e1, g1.cn, e2, bcV_ok g1 g2 ⟨by decide, by decide, by decide⟩, e3, e4]
  refine e5.trans ?_
  rw [e6]
  refine e7.trans ?_
  rw [e8]
  refine e9.trans ?_
  rw [e10]
  refine e11.trans ?_
  rw [e12, e13, g13.cn, e14, bcV_ok g13 g14 ⟨by decide, by decide, by decide⟩, e15, e16, g16.cn, e17, bcV_ok g16 g17 ⟨by decide, by decide, by decide⟩, e18, e19, g19.cn, e20, bcV_ok g19 g20 ⟨by decide, by decide, by decide⟩, e21, e22, g22.cn, e23, bcV_ok g22 g23 ⟨by decide, by decide, by decide⟩, e24]
theorem M264_lp {W : Nat → Nat → Nat → Int32} (r : W 30 0 25 ≠ 0) {kk : Mem → RR} : ∀ (m n j : Nat) (σ : Mem), j + m = 24 → m < n → Iv 246 (fil W 53 0 j (-1)) σ → ∃ σ', lp_M_init_264 215 246 kk n (nI j) σ = kk σ' ∧ Iv 246 (fil W 53 0 24 (-1)) σ' := by
  intro m
  induction m with
  | zero =>
    intro n j σ hj hn h
    obtain ⟨n, rfl⟩ : ∃ n', n = n' + 1 := ⟨n - 1, by omega⟩
    unfold lp_M_init_264
    rw [if_pos (by simp (disch := omega) only [qI_lit, qI_m1, qI_add, qI_mul, qI_le, qI_lt, qI_inj, qI_ne_m, m_ne_nI, m_lt_nI, m_le_nI, qI_lt_m, qI_le_m, qI_sub, qI_div, qI_rem, bI_0, bI_1]; omega)]
    rw [show j = 24 by omega] at h
    exact ⟨σ, rfl, h⟩
  | succ m ih =>
    intro n j σ hj hn h
    obtain ⟨n, rfl⟩ : ∃ n', n = n' + 1 := ⟨n - 1, by omega⟩
    obtain ⟨_, _, _, _, _, _, _, _, _, _, o30, o53⟩ := tbs
    unfold lp_M_init_264
    rw [if_neg (by simp (disch := omega) only [qI_lit, qI_m1, qI_add, qI_mul, qI_le, qI_lt, qI_inj, qI_ne_m, m_ne_nI, m_lt_nI, m_le_nI, qI_lt_m, qI_le_m, qI_sub, qI_div, qI_rem, bI_0, bI_1]; omega)]
    show ∃ σ', bb_gr σ 30 0 25 _ = _ ∧ _
    rw [bgr_ok h ⟨by rw [o30]; decide, by decide, by decide⟩ (by rw [fil_no (by omega)]; exact r), bst_ok h ⟨by rw [o53]; decide, by decide, by decide⟩ (by omega) (by omega), show nI j + 1 = nI (j + 1) by simp (disch := omega) only [qI_lit, qI_m1, qI_add, qI_mul, qI_le, qI_lt, qI_inj, qI_ne_m, m_ne_nI, m_lt_nI, m_le_nI, qI_lt_m, qI_le_m, qI_sub, qI_div, qI_rem, bI_0, bI_1]]
    have g := h.wr (F := 53) (i := 0) (q := j) (v := -1) (by decide)
    rw [fil_up] at g
    exact ih n (j + 1) _ (by omega) (by omega) g
def VM : Nat → Nat → Nat → Int32 := up (up (up (up (up (up (up (up (up (up (up (up (up (up (up (up (up (up (up (up (up (up (up (up (up (up (up (up (up (up (up VX 30 0 0 1) 30 0 1 1) 30 0 2 1) 30 0 3 1) 30 0 6 1) 30 0 8 1) 30 0 9 1) 30 0 10 1) 30 0 11 1) 30 0 12 1) 30 0 13 1) 30 0 14 1) 30 0 15 1) 30 0 16 1) 30 0 17 1) 30 0 18 1) 30 0 19 1) 30 0 20 1) 30 0 21 1) 30 0 22 1) 30 0 23 1) 30 0 24 1) 30 0 25 1) 30 0 26 1) 30 0 27 1) 30 0 28 1) 30 0 29 1) 30 0 32 1) 30 0 33 1) 30 0 34 1) 30 0 37 1
def VZ : Nat → Nat → Nat → Int32 := fil VM 53 0 24 (-1)
theorem M_init_ok {s : Mem} (h : Iv 215 VX s) : ∃ σ', f_M_init (kn s) 246 s = mm_rv σ' ∧ Iv 246 VZ σ' := by
  rw [h.cn]
  obtain ⟨_, _, _, _, _, _, _, _, _, _, o30, o53⟩ := tbs
  have t : ∀ n, n < 31 → tb_ord[215 + n]? = some (31 + n, 0) := by decide +kernel
  obtain ⟨s0, e0, g0⟩ := nwpr (kB := 215) (kE := 246) (F := 31) (i := 0) (G := 30) (j := 0) (q := 0) h ⟨by decide, by decide, t 0 (by decide)⟩ (by decide) (fun _ => rfl) ⟨by rw [o30]; decide, by decide, by decide⟩
  obtain ⟨s1, e1, g1⟩ := nwpr (kB := 215) (kE := 246) (F := 32) (i := 0) (G := 30) (j := 0) (q := 1) g0 ⟨by decide, by decide, t 1 (by decide)⟩ (by decide) (fun _ => rfl) ⟨by rw [o30]; decide, by decide, by decide⟩
  obtain ⟨s2, e2, g2⟩ := nwpr (kB := 215) (kE := 246) (F := 33) (i := 0) (G := 30) (j := 0) (q := 2) g1 ⟨by decide, by decide, t 2 (by decide)⟩ (by decide) (fun _ => rfl) ⟨by rw [o30]; decide, by decide, by decide⟩
  obtain ⟨s3, e3, g3⟩ := nwpr (kB := 215) (kE := 246) (F := 34) (i := 0) (G := 30) (j := 0) (q := 3) g2 ⟨by decide, by decide, t 3 (by decide)⟩ (by decide) (fun _ => rfl) ⟨by rw [o30]; decide, by decide, by decide⟩
  obtain ⟨s4, e4, g4⟩ := nwpr (kB := 215) (kE := 246) (F := 35) (i := 0) (G := 30) (j := 0) (q := 6) g3 ⟨by decide, by decide, t 4 (by decide)⟩ (by decide) (fun _ => rfl) ⟨by rw [o30]; decide, by decide, by decide⟩
  obtain ⟨s5, e5, g5⟩ := nwpr (kB := 215) (kE := 246) (F := 36) (i := 0) (G := 30) (j := 0) (q := 8) g4 ⟨by decide, by decide, t 5 (by decide)⟩ (by decide) (fun _ => rfl) ⟨by rw [o30]; decide, by decide, by decide⟩
  obtain ⟨s6, e6, g6⟩ := nwpr (kB := 215) (kE := 246) (F := 37) (i := 0) (G := 30) (j := 0) (q := 9) g5 ⟨by decide, by decide, t 6 (by decide)⟩ (by decide) (fun _ => rfl) ⟨by rw [o30]; decide, by decide, by decide⟩
  obtain ⟨s7, e7, g7⟩ := nwpr (kB := 215) (kE := 246) (F := 38) (i := 0) (G := 30) (j := 0) (q := 10) g6 ⟨by decide, by decide, t 7 (by decide)⟩ (by decide) (fun _ => rfl) ⟨by rw [o30]; decide, by decide, by decide⟩
  obtain ⟨s8, e8, g8⟩ := nwpr (kB := 215) (kE := 246) (F := 39) (i := 0) (G := 30) (j := 0) (q := 11) g7 ⟨by decide, by decide, t 8 (by decide)⟩ (by decide) (fun _ => rfl) ⟨by rw [o30]; decide, by decide, by decide⟩
  obtain ⟨s9, e9, g9⟩ := nwpr (kB := 215) (kE := 246) (F := 40) (i := 0) (G := 30) (j := 0) (q := 12) g8 ⟨by decide, by decide, t 9 (by decide)⟩ (by decide) (fun _ => rfl) ⟨by rw [o30]; decide, by decide, by decide⟩
  obtain ⟨s10, e10, g10⟩ := nwpr (kB := 215) (kE := 246) (F := 41) (i := 0) (G := 30) (j := 0) (q := 13) g9 ⟨by decide, by decide, t 10 (by decide)⟩ (by decide) (fun _ => rfl) ⟨by rw [o30]; decide, by decide, by decide⟩
  obtain ⟨s11, e11, g11⟩ := nwpr (kB := 215) (kE := 246) (F := 42) (i := 0) (G := 30) (j := 0) (q := 14) g10 ⟨by decide, by decide, t 11 (by decide)⟩ (by decide) (fun _ => rfl) ⟨by rw [o30]; decide, by decide, by decide⟩
  obtain ⟨s12, e12, g12⟩ := nwpr (kB := 215) (kE := 246) (F := 43) (i := 0) (G := 30) (j := 0) (q := 15) g11 ⟨by decide, by decide, t 12 (by decide)⟩ (by decide) (fun _ => rfl) ⟨by rw [o30]; decide, by decide, by decide⟩
  obtain ⟨s13, e13, g13⟩ := nwpr (kB := 215) (kE := 246) (F := 44) (i := 0) (G := 30) (j := 0) (q := 16) g12 ⟨by decide, by decide, t 13 (by decide)⟩ (by decide) (fun _ => rfl) ⟨by rw [o30]; decide, by decide, by decide⟩
  obtain ⟨s14, e14, g14⟩ := nwpr (kB := 215) (kE := 246) (F := 45) (i := 0) (G := 30) (j := 0) (q := 17) g13 ⟨by decide, by decide, t 14 (by decide)⟩ (by decide) (fun _ => rfl) ⟨by rw [o30]; decide, by decide, by decide⟩
  obtain ⟨s15, e15, g15⟩ := nwpr (kB := 215) (kE := 246) (F := 46) (i := 0) (G := 30) (j := 0) (q := 18) g14 ⟨by decide, by decide, t 15 (by decide)⟩ (by decide) (fun _ => rfl) ⟨by rw [o30]; decide, by decide, by decide⟩
  obtain ⟨s16, e16, g16⟩ := nwpr (kB := 215) (kE := 246) (F := 47) (i := 0) (G := 30) (j := 0) (q := 19) g15 ⟨by decide, by decide, t 16 (by decide)⟩ (by decide) (fun _ => rfl) ⟨by rw [o30]; decide, by decide, by decide⟩
  obtain ⟨s17, e17, g17⟩ := nwpr (kB := 215) (kE := 246) (F := 48) (i := 0) (G := 30) (j := 0) (q := 20) g16 ⟨by decide, by decide, t 17 (by decide)⟩ (by decide) (fun _ => rfl) ⟨by rw [o30]; decide, by decide, by decide⟩
  obtain ⟨s18, e18, g18⟩ := nwpr (kB := 215) (kE := 246) (F := 49) (i := 0) (G := 30) (j := 0) (q := 21) g17 ⟨by decide, by decide, t 18 (by decide)⟩ (by decide) (fun _ => rfl) ⟨by rw [o30]; decide, by decide, by decide⟩
  obtain ⟨s19, e19, g19⟩ := nwpr (kB := 215) (kE := 246) (F := 50) (i := 0) (G := 30) (j := 0) (q := 22) g18 ⟨by decide, by decide, t 19 (by decide)⟩ (by decide) (fun _ => rfl) ⟨by rw [o30]; decide, by decide, by decide⟩
  obtain ⟨s20, e20, g20⟩ := nwpr (kB := 215) (kE := 246) (F := 51) (i := 0) (G := 30) (j := 0) (q := 23) g19 ⟨by decide, by decide, t 20 (by decide)⟩ (by decide) (fun _ => rfl) ⟨by rw [o30]; decide, by decide, by decide⟩
  obtain ⟨s21, e21, g21⟩ := nwpr (kB := 215) (kE := 246) (F := 52) (i := 0) (G := 30) (j := 0) (q := 24) g20 ⟨by decide, by decide, t 21 (by decide)⟩ (by decide) (fun _ => rfl) ⟨by rw [o30]; decide, by decide, by decide⟩
  obtain ⟨s22, e22, g22⟩ := nwpr (kB := 215) (kE := 246) (F := 53) (i := 0) (G := 30) (j := 0) (q := 25) g21 ⟨by decide, by decide, t 22 (by decide)⟩ (by decide) (fun _ => rfl) ⟨by rw [o30]; decide, by decide, by decide⟩
  obtain ⟨s23, e23, g23⟩ := nwpr (kB := 215) (kE := 246) (F := 54) (i := 0) (G := 30) (j := 0) (q := 26) g22 ⟨by decide, by decide, t 23 (by decide)⟩ (by decide) (fun _ => rfl) ⟨by rw [o30]; decide, by decide, by decide⟩
  obtain ⟨s24, e24, g24⟩ := nwpr (kB := 215) (kE := 246) (F := 55) (i := 0) (G := 30) (j := 0) (q := 27) g23 ⟨by decide, by decide, t 24 (by decide)⟩ (by decide) (fun _ => rfl) ⟨by rw [o30]; decide, by decide, by decide⟩
  obtain ⟨s25, e25, g25⟩ := nwpr (kB := 215) (kE := 246) (F := 56) (i := 0) (G := 30) (j := 0) (q := 28) g24 ⟨by decide, by decide, t 25 (by decide)⟩ (by decide) (fun _ => rfl) ⟨by rw [o30]; decide, by decide, by decide⟩
  obtain ⟨s26, e26, g26⟩ := nwpr (kB := 215) (kE := 246) (F := 57) (i := 0) (G := 30) (j := 0) (q := 29) g25 ⟨by decide, by decide, t 26 (by decide)⟩ (by decide) (fun _ => rfl) ⟨by rw [o30]; decide, by decide, by decide⟩
  obtain ⟨s27, e27, g27⟩ := nwpr (kB := 215) (kE := 246) (F := 58) (i := 0) (G := 30) (j := 0) (q := 32) g26 ⟨by decide, by decide, t 27 (by decide)⟩ (by decide) (fun _ => rfl) ⟨by rw [o30]; decide, by decide, by decide⟩
  obtain ⟨s28, e28, g28⟩ := nwpr (kB := 215) (kE := 246) (F := 59) (i := 0) (G := 30) (j := 0) (q := 33) g27 ⟨by decide, by decide, t 28 (by decide)⟩ (by decide) (fun _ => rfl) ⟨by rw [o30]; decide, by decide, by decide⟩
  obtain ⟨s29, e29, g29⟩ := nwpr (kB := 215) (kE := 246) (F := 60) (i := 0) (G := 30) (j := 0) (q := 34) g28 ⟨by decide, by decide, t 29 (by decide)⟩ (by decide) (fun _ => rfl) ⟨by rw [o30]; decide, by decide, by decide⟩
  obtain ⟨s30, e30, g30⟩ := nwpr (kB := 215) (kE := 246) (F := 61) (i := 0) (G := 30) (j := 0) (q := 37) g29 ⟨by decide, by decide, t 30 (by decide)⟩ (by decide) (fun _ => rfl) ⟨by rw [o30]; decide, by decide, by decide⟩
  have gz : Iv 246 (fil VM 53 0 0 (-1)) s30 := by rw [fil_0]; exact g30
  obtain ⟨sz, ez, gz⟩ := M264_lp (W := VM) (by decide) (kk := fun s264 => mm_rv s264) 24 FU 0 s30 (by omega) (by unfold FU; omega) gz
  refine ⟨sz, ?_, gz⟩
  unfold f_M_init
  rw [e0, e1, e2, e3, e4, e5, e6, e7, e8, e9, e10, e11, e12, e13, e14, e15, e16, e17, e18, e19, e20, e21, e22, e23, e24, e25, e26, e27, e28, e29, e30]
  exact ez

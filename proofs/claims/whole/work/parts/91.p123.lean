-- the constructors
def up (W : Nat → Nat → Nat → Int32) (F i q : Nat) (v : Int32) : Nat → Nat → Nat → Int32 := fun F' i' k' => if F' = F ∧ i' = i ∧ k' = q then v else W F' i' k'
def Iv (N : Nat) (W : Nat → Nat → Nat → Int32) (σ : Mem) : Prop := (kn σ = N) ∧ (N < 1000) ∧ (∀ F i k, F ≠ 99 → σ.1 F i k = W F i k) ∧ (∀ F i k, σ.2 F i k = 0)
theorem Iv.cn {N : Nat} {W : Nat → Nat → Nat → Int32} {σ : Mem} (h : Iv N W σ) : kn σ = N := h.1
theorem Iv.n {N : Nat} {W : Nat → Nat → Nat → Int32} {σ : Mem} (h : Iv N W σ) : N < 1000 := h.2.1
theorem Iv.w {N : Nat} {W : Nat → Nat → Nat → Int32} {σ : Mem} (h : Iv N W σ) : ∀ F i k, F ≠ 99 → σ.1 F i k = W F i k := h.2.2.1
theorem Iv.z {N : Nat} {W : Nat → Nat → Nat → Int32} {σ : Mem} (h : Iv N W σ) : ∀ F i k, σ.2 F i k = 0 := h.2.2.2
section
variable {N kB kE F i q : Nat} {W W' : Nat → Nat → Nat → Int32} {σ : Mem} {v : Int32} {K : Mem → RR} {a : RR}
theorem Iv.to (h : Iv N W σ) (e : ∀ F i k, F ≠ 99 → W' F i k = W F i k) : Iv N W' σ := ⟨h.cn, h.n, fun F i k hF => (h.w F i k hF).trans (e F i k hF).symm, h.z⟩
theorem nw_ok (h : Iv N W σ) (h1 : kB ≤ N ∧ N < kE ∧ tb_ord[N]? = some (F, i)) : bb_nw kB kE F i σ K = K (bb_zr σ F i) := by
  unfold bb_nw; rw [h.cn, if_pos h1]
theorem Iv.zr (h : Iv N W σ) (hN : N < 900) (h0 : ∀ k, W F i k = 0) : Iv (N + 1) W (bb_zr σ F i) := by
  refine ⟨?_, by omega, fun F' i' k' hF => ?_, fun F' i' k' => ?_⟩
  · show (nI (kn σ + 1)).toNatClampNeg = N + 1
    rw [h.cn, qI_nat (by omega)]
  · show (if F' = 99 ∧ i' = 0 ∧ k' = 0 then _ else if F' = F ∧ i' = i then 0 else σ.1 F' i' k') = _
    rw [if_neg (fun h9 => hF h9.1)]
    by_cases e : F' = F ∧ i' = i
    · rw [if_pos e, e.1, e.2, h0]
    · rw [if_neg e]; exact h.w F' i' k' hF
  · show (if F' = F ∧ i' = i then 0 else σ.2 F' i' k') = 0
    split
    · rfl
    · exact h.z F' i' k'
theorem on_ok (h : Iv N W σ) (h1 : tb_op F i < N ∧ F < 72 ∧ i < cnt F) : bb_on σ F i a = a := by
  unfold bb_on; rw [h.cn, if_pos h1]
theorem pr_ok (h : Iv N W σ) (h1 : tb_op F i < N ∧ F < 72 ∧ i < cnt F) : bb_pr σ F i q K = K (mm_wI σ F i q 1) := on_ok h h1
theorem pf_ok2 (h : Iv N W σ) (h1 : tb_op F i < N ∧ F < 72 ∧ i < cnt F) : bb_pf σ F i q v K = K (mm_wI σ F i q v) := on_ok h h1
theorem Iv.wr (h : Iv N W σ) (hF : F ≠ 99) : Iv N (up W F i q v) (mm_wI σ F i q v) := by
  refine ⟨?_, h.n, fun F' i' k' hF' => ?_, h.z⟩
  · show ((mm_wI σ F i q v).1 99 0 0).toNatClampNeg = N
    rw [wI_ne (fun e => hF e.symm)]; exact h.cn
  · show (if F' = F ∧ i' = i ∧ k' = q then v else σ.1 F' i' k') = (if F' = F ∧ i' = i ∧ k' = q then v else W F' i' k')
    rw [h.w F' i' k' hF']
theorem bgr_ok (h : Iv N W σ) (h1 : tb_op F i < N ∧ F < 72 ∧ i < cnt F) (h2 : W F i q ≠ 0) : bb_gr σ F i q a = a := by
  unfold bb_gr
  rw [on_ok h h1, if_neg (by rw [h.w F i q (by omega)]; exact h2)]
theorem sr_ok {M j : Nat} (h : Iv N W σ) (h1 : tb_op F i < N ∧ F < 72 ∧ i < cnt F) (hj : j < M) (hM : j < 1000) : bb_sr σ F i M (nI j) K = K (mm_wI σ F i j 1) := by
  unfold bb_sr
  rw [on_ok h h1, qI_nat (by omega), if_neg (by rw [show (0 : Int32) = nI 0 from rfl, qI_lt (by omega) (by omega)]; omega)]
theorem bst_ok {M j : Nat} (h : Iv N W σ) (h1 : tb_op F i < N ∧ F < 72 ∧ i < cnt F) (hj : j < M) (hM : j < 1000) : bb_st σ F i M (nI j) v K = K (mm_wI σ F i j v) := by
  unfold bb_st
  rw [on_ok h h1, st_ok hj (by omega)]
theorem bcV_ok {kE1 : Nat} {σ' : Mem} (h : Iv N W σ) (h' : Iv kE1 W' σ') (h1 : kB ≤ N ∧ N ≤ kE1 ∧ kE1 ≤ kE) : bb_cV kB kE kE1 (mm_rv σ') σ K = K σ' := by
  show (if kB ≤ kn σ ∧ kn σ ≤ kE1 ∧ kE1 ≤ kE ∧ kn σ' = kE1 then K σ' else none) = _
  rw [h.cn, h'.cn, if_pos ⟨h1.1, h1.2.1, h1.2.2, rfl⟩]
-- one after another
theorem T_init (h : Iv N W σ) (hN : N < 240) (t1 : tb_ord[N]? = some (2, i)) (t2 : tb_ord[N + 1]? = some (3, i)) (t3 : tb_ord[N + 2]? = some (4, i)) (o : tb_op 1 i < N) (hi : i < 8) (z2 : ∀ k, W 2 i k = 0) (z3 : ∀ k, W 3 i k = 0) (z4 : ∀ k, W 4 i k = 0) :
    ∃ σ', f_T_init i N (N + 3) σ = mm_rv σ' ∧ Iv (N + 3) (up (up (up W 1 i 0 1) 1 i 1 1) 1 i 2 1) σ' := by
  have g1' := h.zr (F := 2) (i := i) (by omega) z2
  have g1 := g1'.wr (F := 1) (i := i) (q := 0) (v := 1) (by decide)
  have g2' := g1.zr (F := 3) (i := i) (by omega) z3
  have g2 := g2'.wr (F := 1) (i := i) (q := 1) (v := 1) (by decide)
  have g3' := g2.zr (F := 4) (i := i) (by omega) z4
  have g3 := g3'.wr (F := 1) (i := i) (q := 2) (v := 1) (by decide)
  refine ⟨_, ?_, g3⟩
  unfold f_T_init
  rw [nw_ok h ⟨by omega, by omega, t1⟩, pr_ok g1' ⟨by omega, by decide, hi⟩, nw_ok g1 ⟨by omega, by omega, t2⟩, pr_ok g2' ⟨by omega, by decide, hi⟩, nw_ok g2 ⟨by omega, by omega, t3⟩, pr_ok g3' ⟨by omega, by decide, hi⟩]
theorem B_init (h : Iv N W σ) (hN : N < 240) (t1 : tb_ord[N]? = some (17, i)) (o : tb_op 16 i < N) (hi : i < 24) (z1 : ∀ k, W 17 i k = 0) :
    ∃ σ', f_B_init i N (N + 1) σ = mm_rv σ' ∧ Iv (N + 1) (up (up W 16 i 0 1) 16 i 3 (-1)) σ' := by
  have g1 := (h.zr (F := 17) (i := i) (by omega) z1).wr (F := 16) (i := i) (q := 0) (v := 1) (by decide)
  have g2 := g1.wr (F := 16) (i := i) (q := 3) (v := -1) (by decide)
  refine ⟨_, ?_, g2⟩
  unfold f_B_init
  rw [nw_ok h ⟨by omega, by omega, t1⟩, pr_ok (h.zr (by omega) z1) ⟨by omega, by decide, hi⟩, pf_ok2 g1 ⟨by omega, by decide, hi⟩]
theorem L_init (h : Iv N W σ) (hN : N < 240) (t1 : tb_ord[N]? = some (20, i)) (o : tb_op 19 i < N) (hi : i < 16) (z1 : ∀ k, W 20 i k = 0) :
    ∃ σ', f_L_init i N (N + 1) σ = mm_rv σ' ∧ Iv (N + 1) (up W 19 i 10 1) σ' := by
  have g1 := (h.zr (F := 20) (i := i) (by omega) z1).wr (F := 19) (i := i) (q := 10) (v := 1) (by decide)
  refine ⟨_, ?_, g1⟩
  unfold f_L_init
  rw [nw_ok h ⟨by omega, by omega, t1⟩, pr_ok (h.zr (by omega) z1) ⟨by omega, by decide, hi⟩]
theorem R_init (h : Iv N W σ) (hN : N < 240) (t1 : tb_ord[N]? = some (23, i)) (t2 : tb_ord[N + 1]? = some (24, i)) (t3 : tb_ord[N + 2]? = some (25, i)) (o : tb_op 22 i < N) (hi : i < 2) (z2 : ∀ k, W 23 i k = 0) (z3 : ∀ k, W 24 i k = 0) (z4 : ∀ k, W 25 i k = 0) :
    ∃ σ', f_R_init i N (N + 3) σ = mm_rv σ' ∧ Iv (N + 3) (up (up (up W 22 i 0 1) 22 i 1 1) 22 i 2 1) σ' := by
  have g1' := h.zr (F := 23) (i := i) (by omega) z2
  have g1 := g1'.wr (F := 22) (i := i) (q := 0) (v := 1) (by decide)
  have g2' := g1.zr (F := 24) (i := i) (by omega) z3
  have g2 := g2'.wr (F := 22) (i := i) (q := 1) (v := 1) (by decide)
  have g3' := g2.zr (F := 25) (i := i) (by omega) z4
  have g3 := g3'.wr (F := 22) (i := i) (q := 2) (v := 1) (by decide)
  refine ⟨_, ?_, g3⟩
  unfold f_R_init
  rw [nw_ok h ⟨by omega, by omega, t1⟩, pr_ok g1' ⟨by omega, by decide, hi⟩, nw_ok g1 ⟨by omega, by omega, t2⟩, pr_ok g2' ⟨by omega, by decide, hi⟩, nw_ok g2 ⟨by omega, by omega, t3⟩, pr_ok g3' ⟨by omega, by decide, hi⟩]
theorem O_init (h : Iv N W σ) (hN : N < 240) (t1 : tb_ord[N]? = some (27, i)) (o : tb_op 26 i < N) (hi : i < 2) (z1 : ∀ k, W 27 i k = 0) :
    ∃ σ', f_O_init i N (N + 1) σ = mm_rv σ' ∧ Iv (N + 1) (up W 26 i 0 1) σ' := by
  have g1 := (h.zr (F := 27) (i := i) (by omega) z1).wr (F := 26) (i := i) (q := 0) (v := 1) (by decide)
  refine ⟨_, ?_, g1⟩
  unfold f_O_init
  rw [nw_ok h ⟨by omega, by omega, t1⟩, pr_ok (h.zr (by omega) z1) ⟨by omega, by decide, hi⟩]
def fil (W : Nat → Nat → Nat → Int32) (F i n : Nat) (v : Int32) : Nat → Nat → Nat → Int32 := fun F' i' k' => if F' = F ∧ i' = i ∧ k' < n then v else W F' i' k'
theorem fil_up {W : Nat → Nat → Nat → Int32} {F i n : Nat} {v : Int32} : up (fil W F i n v) F i n v = fil W F i (n + 1) v := by
  funext a b c
  unfold up fil
  by_cases e : a = F ∧ b = i ∧ c = n
  · rw [if_pos e, if_pos (by omega)]
  · rw [if_neg e]
    by_cases e2 : a = F ∧ b = i ∧ c < n
    · rw [if_pos e2, if_pos (by omega)]
    · rw [if_neg e2, if_neg (by omega)]
theorem fil_0 {W : Nat → Nat → Nat → Int32} {F i : Nat} {v : Int32} : fil W F i 0 v = W := by
  funext a b c; unfold fil; rw [if_neg (by omega)]
theorem B_fill_lp (hF : F < 72) (hi : i < cnt F) (ho : tb_op F i < N) {M : Nat} (hM : M < 1000) {kk : Mem → RR} : ∀ (m n j : Nat) (σ : Mem), j + m = M → m < n → Iv N (fil W F i j v) σ → ∃ σ', lp_B_fill_5 F i M v (nI M) kk n (nI j) σ = kk σ' ∧ Iv N (fil W F i M v) σ' := by
  intro m
  induction m with
  | zero =>
    intro n j σ hj hn h
    obtain ⟨n, rfl⟩ : ∃ n', n = n' + 1 := ⟨n - 1, by omega⟩
    unfold lp_B_fill_5
    rw [if_pos (by simp (disch := omega) only [qI_lit, qI_m1, qI_add, qI_mul, qI_le, qI_lt, qI_inj, qI_ne_m, m_ne_nI, m_lt_nI, m_le_nI, qI_lt_m, qI_le_m, qI_sub, qI_div, qI_rem, bI_0, bI_1]; omega)]
    rw [show j = M by omega] at h
    exact ⟨σ, rfl, h⟩
  | succ m ih =>
    intro n j σ hj hn h
    obtain ⟨n, rfl⟩ : ∃ n', n = n' + 1 := ⟨n - 1, by omega⟩
    unfold lp_B_fill_5
    rw [if_neg (by simp (disch := omega) only [qI_lit, qI_m1, qI_add, qI_mul, qI_le, qI_lt, qI_inj, qI_ne_m, m_ne_nI, m_lt_nI, m_le_nI, qI_lt_m, qI_le_m, qI_sub, qI_div, qI_rem, bI_0, bI_1]; omega), bst_ok h ⟨ho, hF, hi⟩ (by omega) (by omega), show nI j + 1 = nI (j + 1) by simp (disch := omega) only [qI_lit, qI_m1, qI_add, qI_mul, qI_le, qI_lt, qI_inj, qI_ne_m, m_ne_nI, m_lt_nI, m_le_nI, qI_lt_m, qI_le_m, qI_sub, qI_div, qI_rem, bI_0, bI_1]]
    have g := h.wr (F := F) (i := i) (q := j) (v := v) (by omega)
    rw [fil_up] at g
    exact ih n (j + 1) _ (by omega) (by omega) g
theorem B_fill (h : Iv N W σ) (hF : F < 72) (hi : i < cnt F) (ho : tb_op F i < N) {M : Nat} (hM : M < 1000) : ∃ σ', f_B_fill F i M v σ = mm_rv σ' ∧ Iv N (fil W F i M v) σ' := by
  unfold f_B_fill
  rw [on_ok h ⟨ho, hF, hi⟩]
  exact B_fill_lp hF hi ho hM (kk := fun s5 => mm_rv s5) M FU 0 σ (by omega) (by unfold FU; omega) (by rw [fil_0]; exact h)
theorem S_init (h : Iv N W σ) (hN : N < 240) (t1 : tb_ord[N]? = some (8, i)) (t2 : tb_ord[N + 1]? = some (9, i)) (t3 : tb_ord[N + 2]? = some (10, i)) (t4 : tb_ord[N + 3]? = some (11, i)) (o : tb_op 7 i < N) (o8 : tb_op 8 i < N + 1) (hi : i < 12) (z1 : ∀ k, W 8 i k = 0) (z2 : ∀ k, W 9 i k = 0) (z3 : ∀ k, W 10 i k = 0) (z4 : ∀ k, W 11 i k = 0) :
    ∃ σ', f_S_init i v N (N + 4) σ = mm_rv σ' ∧ Iv (N + 4) (up (up (up (fil (up (up W 7 i 0 v) 7 i 1 1) 8 i 64 (-1)) 7 i 2 1) 7 i 3 1) 7 i 4 1) σ' := by
  have g0 := h.wr (F := 7) (i := i) (q := 0) (v := v) (by decide)
  have g1' := g0.zr (F := 8) (i := i) (by omega) z1
  have g1 := g1'.wr (F := 7) (i := i) (q := 1) (v := 1) (by decide)
  obtain ⟨s2, e2, g2⟩ := B_fill (F := 8) (i := i) (M := 64) (v := -1) g1 (by decide) hi o8 (by decide)
  have g3' := g2.zr (F := 9) (i := i) (by omega) z2
  have g3 := g3'.wr (F := 7) (i := i) (q := 2) (v := 1) (by decide)
  have g4' := g3.zr (F := 10) (i := i) (by omega) z3
  have g4 := g4'.wr (F := 7) (i := i) (q := 3) (v := 1) (by decide)
  have g5' := g4.zr (F := 11) (i := i) (by omega) z4
  have g5 := g5'.wr (F := 7) (i := i) (q := 4) (v := 1) (by decide)
  refine ⟨_, ?_, g5⟩
  unfold f_S_init
  have h1 : (up (up W 7 i 0 v) 7 i 1 1) 7 i 1 ≠ 0 := by unfold up; rw [if_pos ⟨rfl, rfl, rfl⟩]; decide
  rw [pf_ok2 h ⟨o, by decide, hi⟩, nw_ok g0 ⟨by omega, by omega, t1⟩, pr_ok g1' ⟨by omega, by decide, hi⟩]
  show bb_gr _ 7 i 1 _ = _
  rw [bgr_ok g1 ⟨by omega, by decide, hi⟩ h1, e2, show kn (mm_wI (bb_zr (mm_wI σ 7 i 0 v) 8 i) 7 i 1 1) = N + 1 from g1.cn, bcV_ok g1 g2 ⟨by omega, by omega, by omega⟩, nw_ok g2 ⟨by omega, by omega, t2⟩, pr_ok g3' ⟨by omega, by decide, hi⟩, nw_ok g3 ⟨by omega, by omega, t3⟩, pr_ok g4' ⟨by omega, by decide, hi⟩, nw_ok g4 ⟨by omega, by omega, t4⟩, pr_ok g5' ⟨by omega, by decide, hi⟩]
end

theorem tb26 : ∀ j, j < 7 → tb_ord[6 + 4 * j]? = some (1, j) ∧ tb_ord[6 + 4 * j + 1]? = some (2, j) ∧ tb_ord[6 + 4 * j + 1 + 1]? = some (3, j) ∧ tb_ord[6 + 4 * j + 1 + 2]? = some (4, j) ∧ tb_op 1 j = 6 + 4 * j := by decide +kernel
theorem tb62 : ∀ j, j < 12 → tb_ord[35 + 5 * j]? = some (7, j) ∧ tb_ord[35 + 5 * j + 1]? = some (8, j) ∧ tb_ord[35 + 5 * j + 1 + 1]? = some (9, j) ∧ tb_ord[35 + 5 * j + 1 + 2]? = some (10, j) ∧ tb_ord[35 + 5 * j + 1 + 3]? = some (11, j) ∧ tb_op 7 j = 35 + 5 * j ∧ tb_op 8 j = 35 + 5 * j + 1 := by decide +kernel
theorem tb111 : ∀ j, j < 8 → tb_ord[96 + 9 * j]? = some (13, j) ∧ tb_ord[96 + 9 * j + 1]? = some (14, j) ∧ tb_ord[96 + 9 * j + 8]? = some (15, j) ∧ tb_op 13 j = 96 + 9 * j ∧ tb_op 14 j = 96 + 9 * j + 1 := by decide +kernel
theorem tb14 : ∀ j, j < 8 → ∀ b, b < 3 → tb_ord[96 + 9 * j + 2 + 2 * b]? = some (16, 3 * j + b) ∧ tb_ord[96 + 9 * j + 2 + 2 * b + 1]? = some (17, 3 * j + b) ∧ tb_op 16 (3 * j + b) = 96 + 9 * j + 2 + 2 * b := by decide +kernel
theorem tb147 : ∀ j, j < 16 → tb_ord[169 + 2 * j]? = some (19, j) ∧ tb_ord[169 + 2 * j + 1]? = some (20, j) ∧ tb_op 19 j = 169 + 2 * j := by decide +kernel
theorem tbs : tb_op 0 0 = 0 ∧ tb_op 5 0 = 5 ∧ tb_op 6 0 = 34 ∧ tb_op 12 0 = 95 ∧ tb_op 18 0 = 168 ∧ tb_op 1 7 = 1 ∧ tb_op 22 0 = 202 ∧ tb_op 22 1 = 206 ∧ tb_op 26 0 = 210 ∧ tb_op 26 1 = 212 ∧ tb_op 30 0 = 214 ∧ tb_op 53 0 = 237 := by decide +kernel
def wB (W : Nat → Nat → Nat → Int32) (j : Nat) : Nat → Nat → Nat → Int32 := fun F i k => if F = 1 ∧ i < j ∧ k < 3 then 1 else if F = 5 ∧ i = 0 ∧ k < j then 1 else W F i k
def wC (W : Nat → Nat → Nat → Int32) (j : Nat) : Nat → Nat → Nat → Int32 := fun F i k => if F = 7 ∧ i < j ∧ k = 0 then nI (capa i) else if F = 7 ∧ i < j ∧ k < 5 then 1 else if F = 8 ∧ i < j ∧ k < 64 then -1 else if F = 6 ∧ i = 0 ∧ k < j then 1 else W F i k
def wD (W : Nat → Nat → Nat → Int32) (j b : Nat) : Nat → Nat → Nat → Int32 := fun F i k => if F = 16 ∧ i < 3 * j + b ∧ k = 0 then 1 else if F = 16 ∧ i < 3 * j + b ∧ k = 3 then -1 else if F = 14 ∧ i < j ∧ k < 3 then 1 else if F = 14 ∧ i = j ∧ k < b then 1 else if F = 13 ∧ i < j ∧ k < 2 then 1 else if F = 12 ∧ i = 0 ∧ k < j then 1 else W F i k
def wE (W : Nat → Nat → Nat → Int32) (j : Nat) : Nat → Nat → Nat → Int32 := fun F i k => if F = 19 ∧ i < j ∧ k = 10 then 1 else if F = 18 ∧ i = 0 ∧ k < j then 1 else W F i k
theorem up_yes {W : Nat → Nat → Nat → Int32} {F i q : Nat} {v : Int32} : up W F i q v F i q = v := if_pos ⟨rfl, rfl, rfl⟩
theorem up_no {W : Nat → Nat → Nat → Int32} {F i q F' i' k' : Nat} {v : Int32} (h : ¬ (F' = F ∧ i' = i ∧ k' = q)) : up W F i q v F' i' k' = W F' i' k' := if_neg h
theorem fil_yes {W : Nat → Nat → Nat → Int32} {F i n k : Nat} {v : Int32} (h : k < n) : fil W F i n v F i k = v := if_pos ⟨rfl, rfl, h⟩
theorem fil_no {W : Nat → Nat → Nat → Int32} {F i n F' i' k' : Nat} {v : Int32} (h : ¬ (F' = F ∧ i' = i ∧ k' < n)) : fil W F i n v F' i' k' = W F' i' k' := if_neg h
section
variable {W : Nat → Nat → Nat → Int32} {kk : Mem → RR}
theorem X26_lp (r : W 0 0 2 ≠ 0) (z1 : ∀ i k, i < 7 → W 1 i k = 0) (z2 : ∀ i k, W 2 i k = 0) (z3 : ∀ i k, W 3 i k = 0) (z4 : ∀ i k, W 4 i k = 0) : ∀ (m n j : Nat) (σ : Mem), j + m = 7 → m < n → Iv (6 + 4 * j) (wB W j) σ → ∃ σ', lp_X_init_26 1 214 kk n (nI j) σ = kk σ' ∧ Iv 34 (wB W 7) σ' := by
  intro m
  induction m with
  | zero =>
    intro n j σ hj hn h
    obtain ⟨n, rfl⟩ : ∃ n', n = n' + 1 := ⟨n - 1, by omega⟩
    unfold lp_X_init_26
    rw [if_pos (by simp (disch := omega) only [qI_lit, qI_m1, qI_add, qI_mul, qI_le, qI_lt, qI_inj, qI_ne_m, m_ne_nI, m_lt_nI, m_le_nI, qI_lt_m, qI_le_m, qI_sub, qI_div, qI_rem, bI_0, bI_1]; omega)]
    rw [show j = 7 by omega] at h
    exact ⟨σ, rfl, h⟩
  | succ m ih =>
    intro n j σ hj hn h
    obtain ⟨n, rfl⟩ : ∃ n', n = n' + 1 := ⟨n - 1, by omega⟩
    obtain ⟨t0, t1, t2, t3, o1⟩ := tb26 j (by omega)
    have hr : wB W j 0 0 2 ≠ 0 := r
    have g1 := h.zr (F := 1) (i := j) (by omega) (fun k => by unfold wB; rw [if_neg (by omega), if_neg (by omega)]; exact z1 j k (by omega))
    obtain ⟨s2, e2, g2⟩ := T_init (i := j) g1 (by omega) t1 t2 t3 (by omega) (by omega) (z2 j) (z3 j) (z4 j)
    have g3 := g2.wr (F := 5) (i := 0) (q := j) (v := 1) (by decide)
    unfold lp_X_init_26
    rw [if_neg (by simp (disch := omega) only [qI_lit, qI_m1, qI_add, qI_mul, qI_le, qI_lt, qI_inj, qI_ne_m, m_ne_nI, m_lt_nI, m_le_nI, qI_lt_m, qI_le_m, qI_sub, qI_div, qI_rem, bI_0, bI_1]; omega)]
    show ∃ σ', bb_gr σ 0 0 2 _ = _ ∧ _
    rw [bgr_ok h ⟨by rw [tbs.1]; omega, by decide, by decide⟩ hr, qI_nat (by omega), nw_ok h ⟨by omega, by omega, t0⟩, g1.cn, e2, bcV_ok g1 g2 ⟨by omega, by omega, by omega⟩]
    show ∃ σ', bb_on s2 1 j _ = _ ∧ _
    rw [on_ok g2 ⟨by omega, by decide, show j < 8 by omega⟩, sr_ok g2 ⟨by rw [tbs.2.1]; omega, by decide, by decide⟩ (by omega) (by omega), show nI j + 1 = nI (j + 1) by simp (disch := omega) only [qI_lit, qI_m1, qI_add, qI_mul, qI_le, qI_lt, qI_inj, qI_ne_m, m_ne_nI, m_lt_nI, m_le_nI, qI_lt_m, qI_le_m, qI_sub, qI_div, qI_rem, bI_0, bI_1]]
    refine ih n (j + 1) _ (by omega) (by omega) ?_
    have g4 := g3.to (W' := wB W (j + 1)) (fun F i k _ => by
      by_cases e5 : F = 5 ∧ i = 0 ∧ k = j
      · rw [e5.1, e5.2.1, e5.2.2, up_yes]; unfold wB; rw [if_neg (by omega), if_pos (by omega)]
      rw [up_no e5]
      by_cases e1 : F = 1 ∧ i = j
      · obtain ⟨rfl, rfl⟩ := e1
        by_cases k2 : k = 2
        · rw [k2, up_yes]; unfold wB; rw [if_pos (by omega)]
        rw [up_no (by omega)]
        by_cases k1 : k = 1
        · rw [k1, up_yes]; unfold wB; rw [if_pos (by omega)]
        rw [up_no (by omega)]
        by_cases k0 : k = 0
        · rw [k0, up_yes]; unfold wB; rw [if_pos (by omega)]
        rw [up_no (by omega)]; unfold wB
        rw [if_neg (by omega), if_neg (by omega), if_neg (by omega), if_neg (by omega)]
      · rw [up_no (by omega), up_no (by omega), up_no (by omega)]
        unfold wB
        have a1 : (F = 1 ∧ i < j + 1 ∧ k < 3) = (F = 1 ∧ i < j ∧ k < 3) := propext (by omega)
        have a2 : (F = 5 ∧ i = 0 ∧ k < j + 1) = (F = 5 ∧ i = 0 ∧ k < j) := propext (by omega)
        simp only [a1, a2])
    rw [show 6 + 4 * (j + 1) = 6 + 4 * j + 1 + 3 by omega]; exact g4
theorem X62_lp (r : W 0 0 4 ≠ 0) (z7 : ∀ i k, W 7 i k = 0) (z8 : ∀ i k, W 8 i k = 0) (z9 : ∀ i k, W 9 i k = 0) (z10 : ∀ i k, W 10 i k = 0) (z11 : ∀ i k, W 11 i k = 0) : ∀ (m n j : Nat) (σ : Mem), j + m = 12 → m < n → Iv (35 + 5 * j) (wC W j) σ → ∃ σ', lp_X_init_62 1 214 kk n (nI j) σ = kk σ' ∧ Iv 95 (wC W 12) σ' := by
  intro m
  induction m with
  | zero =>
    intro n j σ hj hn h
    obtain ⟨n, rfl⟩ : ∃ n', n = n' + 1 := ⟨n - 1, by omega⟩
    unfold lp_X_init_62
    rw [if_pos (by simp (disch := omega) only [qI_lit, qI_m1, qI_add, qI_mul, qI_le, qI_lt, qI_inj, qI_ne_m, m_ne_nI, m_lt_nI, m_le_nI, qI_lt_m, qI_le_m, qI_sub, qI_div, qI_rem, bI_0, bI_1]; omega)]
    rw [show j = 12 by omega] at h
    exact ⟨σ, rfl, h⟩
  | succ m ih =>
    intro n j σ hj hn h
    obtain ⟨n, rfl⟩ : ∃ n', n = n' + 1 := ⟨n - 1, by omega⟩
    obtain ⟨t0, t1, t2, t3, t4, o7, o8⟩ := tb62 j (by omega)
    have hr : wC W j 0 0 4 ≠ 0 := r
    have y7 : ∀ k, wC W j 7 j k = 0 := fun k => by unfold wC; rw [if_neg (by omega), if_neg (by omega), if_neg (by omega), if_neg (by omega)]; exact z7 j k
    have y8 : ∀ k, wC W j 8 j k = 0 := fun k => by unfold wC; rw [if_neg (by omega), if_neg (by omega), if_neg (by omega), if_neg (by omega)]; exact z8 j k
    have g1 := h.zr (F := 7) (i := j) (by omega) y7
    have fin : ∀ v, v = nI (capa j) → ∃ σ', (bb_cV 1 214 (kn (bb_zr σ 7 j) + 4) (f_S_init j v (kn (bb_zr σ 7 j)) (kn (bb_zr σ 7 j) + 4) (bb_zr σ 7 j)) (bb_zr σ 7 j) fun s90 => bb_on s90 7 j <| bb_sr s90 6 0 12 (nI j) fun s93 => lp_X_init_62 1 214 kk n (nI j + (1 : Int32)) s93) = kk σ' ∧ Iv 95 (wC W 12) σ' := by
      intro v hv
      obtain ⟨s2, e2, g2⟩ := S_init (i := j) (v := v) g1 (by omega) t1 t2 t3 t4 (by omega) (by omega) (by omega) y8 (z9 j) (z10 j) (z11 j)
      have g3 := g2.wr (F := 6) (i := 0) (q := j) (v := 1) (by decide)
      rw [g1.cn, e2, bcV_ok g1 g2 ⟨by omega, by omega, by omega⟩]
      show ∃ σ', bb_on s2 7 j _ = _ ∧ _
      rw [on_ok g2 ⟨by omega, by decide, show j < 12 by omega⟩, sr_ok g2 ⟨by rw [tbs.2.2.1]; omega, by decide, by decide⟩ (by omega) (by omega), show nI j + 1 = nI (j + 1) by simp (disch := omega) only [qI_lit, qI_m1, qI_add, qI_mul, qI_le, qI_lt, qI_inj, qI_ne_m, m_ne_nI, m_lt_nI, m_le_nI, qI_lt_m, qI_le_m, qI_sub, qI_div, qI_rem, bI_0, bI_1]]
      refine ih n (j + 1) _ (by omega) (by omega) ?_
      have g4 := g3.to (W' := wC W (j + 1)) (fun F i k _ => by
        by_cases e7 : F = 7 ∧ i = j
        · obtain ⟨rfl, rfl⟩ := e7
          rw [up_no (by omega)]
          by_cases k4 : k = 4
          · rw [k4, up_yes]; unfold wC; rw [if_neg (by omega), if_pos (by omega)]
          rw [up_no (by omega)]
          by_cases k3 : k = 3
          · rw [k3, up_yes]; unfold wC; rw [if_neg (by omega), if_pos (by omega)]
          rw [up_no (by omega)]
          by_cases k2 : k = 2
          · rw [k2, up_yes]; unfold wC; rw [if_neg (by omega), if_pos (by omega)]
          rw [up_no (by omega), fil_no (by omega)]
          by_cases k1 : k = 1
          · rw [k1, up_yes]; unfold wC; rw [if_neg (by omega), if_pos (by omega)]
          rw [up_no (by omega)]
          by_cases k0 : k = 0
          · rw [k0, up_yes, hv]; unfold wC; rw [if_pos (by omega)]
          rw [up_no (by omega)]; unfold wC
          rw [if_neg (by omega), if_neg (by omega), if_neg (by omega), if_neg (by omega), if_neg (by omega), if_neg (by omega), if_neg (by omega), if_neg (by omega)]
        · by_cases e6 : F = 6 ∧ i = 0 ∧ k = j
          · rw [e6.1, e6.2.1, e6.2.2, up_yes]; unfold wC
            rw [if_neg (by omega), if_neg (by omega), if_neg (by omega), if_pos (by omega)]
          · rw [up_no (by omega), up_no (by omega), up_no (by omega), up_no (by omega)]
            by_cases e8 : F = 8 ∧ i = j
            · obtain ⟨rfl, rfl⟩ := e8
              by_cases k6 : k < 64
              · rw [fil_yes k6]; unfold wC
                rw [if_neg (by omega), if_neg (by omega), if_pos (by omega)]
              · rw [fil_no (by omega), up_no (by omega), up_no (by omega)]; unfold wC
                rw [if_neg (by omega), if_neg (by omega), if_neg (by omega), if_neg (by omega), if_neg (by omega), if_neg (by omega), if_neg (by omega), if_neg (by omega)]
            · rw [fil_no (by omega), up_no (by omega), up_no (by omega)]
              unfold wC
              have a1 : (F = 7 ∧ i < j + 1 ∧ k = 0) = (F = 7 ∧ i < j ∧ k = 0) := propext (by omega)
              have a2 : (F = 7 ∧ i < j + 1 ∧ k < 5) = (F = 7 ∧ i < j ∧ k < 5) := propext (by omega)
              have a3 : (F = 8 ∧ i < j + 1 ∧ k < 64) = (F = 8 ∧ i < j ∧ k < 64) := propext (by omega)
              have a4 : (F = 6 ∧ i = 0 ∧ k < j + 1) = (F = 6 ∧ i = 0 ∧ k < j) := propext (by omega)
              simp only [a1, a2, a3, a4])
      rw [show 35 + 5 * (j + 1) = 35 + 5 * j + 1 + 4 by omega]; exact g4
    unfold lp_X_init_62
    rw [if_neg (by simp (disch := omega) only [qI_lit, qI_m1, qI_add, qI_mul, qI_le, qI_lt, qI_inj, qI_ne_m, m_ne_nI, m_lt_nI, m_le_nI, qI_lt_m, qI_le_m, qI_sub, qI_div, qI_rem, bI_0, bI_1]; omega)]
    show ∃ σ', bb_gr σ 0 0 4 _ = _ ∧ _
    rw [bgr_ok h ⟨by rw [tbs.1]; omega, by decide, by decide⟩ hr, qI_nat (by omega), nw_ok h ⟨by omega, by omega, t0⟩]
    by_cases c : 8 ≤ j
    · rw [if_pos (by simp (disch := omega) only [qI_lit, qI_m1, qI_add, qI_mul, qI_le, qI_lt, qI_inj, qI_ne_m, m_ne_nI, m_lt_nI, m_le_nI, qI_lt_m, qI_le_m, qI_sub, qI_div, qI_rem, bI_0, bI_1]; exact c)]
      exact fin 10 (by unfold capa; rw [if_neg (by omega)]; rfl)
    · rw [if_neg (by simp (disch := omega) only [qI_lit, qI_m1, qI_add, qI_mul, qI_le, qI_lt, qI_inj, qI_ne_m, m_ne_nI, m_lt_nI, m_le_nI, qI_lt_m, qI_le_m, qI_sub, qI_div, qI_rem, bI_0, bI_1]; exact c)]
      exact fin 24 (by unfold capa; rw [if_pos (by omega)]; rfl)
theorem C14_lp {g : Nat} (hg : g < 8) (r : W 13 g 0 ≠ 0) (z16 : ∀ i k, W 16 i k = 0) (z17 : ∀ i k, W 17 i k = 0) : ∀ (m n b : Nat) (σ : Mem), b + m = 3 → m < n → Iv (96 + 9 * g + 2 + 2 * b) (wD W g b) σ → ∃ σ', lp_C_init_14 (96 + 9 * g + 1) (96 + 9 * g + 1 + 8) g kk n (nI b) σ = kk σ' ∧ Iv (96 + 9 * g + 8) (wD W g 3) σ' := by
  intro m
  induction m with
  | zero =>
    intro n j σ hj hn h
    obtain ⟨n, rfl⟩ : ∃ n', n = n' + 1 := ⟨n - 1, by omega⟩
    unfold lp_C_init_14
    rw [if_pos (by simp (disch := omega) only [qI_lit, qI_m1, qI_add, qI_mul, qI_le, qI_lt, qI_inj, qI_ne_m, m_ne_nI, m_lt_nI, m_le_nI, qI_lt_m, qI_le_m, qI_sub, qI_div, qI_rem, bI_0, bI_1]; omega)]
    rw [show j = 3 by omega] at h
    exact ⟨σ, rfl, h⟩
  | succ m ih =>
    intro n b σ hb hn h
    obtain ⟨n, rfl⟩ : ∃ n', n = n' + 1 := ⟨n - 1, by omega⟩
    obtain ⟨t0, t1, o16⟩ := tb14 g hg b (by omega)
    obtain ⟨_, _, _, o13, o14⟩ := tb111 g hg
    have hr : wD W g b 13 g 0 ≠ 0 := by unfold wD; rw [if_neg (by omega), if_neg (by omega), if_neg (by omega), if_neg (by omega), if_neg (by omega), if_neg (by omega)]; exact r
    have g1 := h.zr (F := 16) (i := 3 * g + b) (by omega) (fun k => by unfold wD; rw [if_neg (by omega), if_neg (by omega), if_neg (by omega), if_neg (by omega), if_neg (by omega), if_neg (by omega)]; exact z16 _ k)
    obtain ⟨s2, e2, g2⟩ := B_init (i := 3 * g + b) g1 (by omega) t1 (by omega) (by omega) (fun k => by unfold wD; rw [if_neg (by omega), if_neg (by omega), if_neg (by omega), if_neg (by omega), if_neg (by omega), if_neg (by omega)]; exact z17 _ k)
    have g3 := g2.wr (F := 14) (i := g) (q := b) (v := 1) (by decide)
    unfold lp_C_init_14
    rw [if_neg (by simp (disch := omega) only [qI_lit, qI_m1, qI_add, qI_mul, qI_le, qI_lt, qI_inj, qI_ne_m, m_ne_nI, m_lt_nI, m_le_nI, qI_lt_m, qI_le_m, qI_sub, qI_div, qI_rem, bI_0, bI_1]; omega)]
    show ∃ σ', bb_gr σ 13 g 0 _ = _ ∧ _
    rw [bgr_ok h ⟨by omega, by decide, hg⟩ hr, qI_nat (by omega), nw_ok h ⟨by omega, by omega, t0⟩, g1.cn, e2, bcV_ok g1 g2 ⟨by omega, by omega, by omega⟩]
    show ∃ σ', bb_on s2 16 (3 * g + b) _ = _ ∧ _
    rw [on_ok g2 ⟨by omega, by decide, show 3 * g + b < 24 by omega⟩, sr_ok g2 ⟨by omega, by decide, hg⟩ (by omega) (by omega), show nI b + 1 = nI (b + 1) by simp (disch := omega) only [qI_lit, qI_m1, qI_add, qI_mul, qI_le, qI_lt, qI_inj, qI_ne_m, m_ne_nI, m_lt_nI, m_le_nI, qI_lt_m, qI_le_m, qI_sub, qI_div, qI_rem, bI_0, bI_1]]
    refine ih n (b + 1) _ (by omega) (by omega) ?_
    have g4 := g3.to (W' := wD W g (b + 1)) (fun F i k _ => by
      by_cases e14 : F = 14 ∧ i = g ∧ k = b
      · rw [e14.1, e14.2.1, e14.2.2, up_yes]; unfold wD
        rw [if_neg (by omega), if_neg (by omega), if_neg (by omega), if_pos (by omega)]
      rw [up_no e14]
      by_cases e16 : F = 16 ∧ i = 3 * g + b
      · obtain ⟨rfl, rfl⟩ := e16
        by_cases k3 : k = 3
        · rw [k3, up_yes]; unfold wD; rw [if_neg (by omega), if_pos (by omega)]
        rw [up_no (by omega)]
        by_cases k0 : k = 0
        · rw [k0, up_yes]; unfold wD; rw [if_pos (by omega)]
        rw [up_no (by omega)]; unfold wD
        repeat rw [if_neg (by omega)]
      · rw [up_no (by omega), up_no (by omega)]
        unfold wD
        have a1 : (F = 16 ∧ i < 3 * g + (b + 1) ∧ k = 0) = (F = 16 ∧ i < 3 * g + b ∧ k = 0) := propext (by omega)
        have a2 : (F = 16 ∧ i < 3 * g + (b + 1) ∧ k = 3) = (F = 16 ∧ i < 3 * g + b ∧ k = 3) := propext (by omega)
        have a3 : (F = 14 ∧ i = g ∧ k < b + 1) = (F = 14 ∧ i = g ∧ k < b) := propext (by omega)
        simp only [a1, a2, a3])
    rw [show 96 + 9 * g + 2 + 2 * (b + 1) = 96 + 9 * g + 2 + 2 * b + 1 + 1 by omega]; exact g4
theorem X111_lp (r : W 0 0 5 ≠ 0) (z12 : ∀ k, W 12 0 k = 0) (z13 : ∀ i k, W 13 i k = 0) (z14 : ∀ i k, W 14 i k = 0) (z15 : ∀ i k, W 15 i k = 0) (z16 : ∀ i k, W 16 i k = 0) (z17 : ∀ i k, W 17 i k = 0) : ∀ (m n g : Nat) (σ : Mem), g + m = 8 → m < n → Iv (96 + 9 * g) (wD W g 0) σ → ∃ σ', lp_X_init_111 1 214 kk n (nI g) σ = kk σ' ∧ Iv 168 (wD W 8 0) σ' := by
  intro m
  induction m with
  | zero =>
    intro n j σ hj hn h
    obtain ⟨n, rfl⟩ : ∃ n', n = n' + 1 := ⟨n - 1, by omega⟩
    unfold lp_X_init_111
    rw [if_pos (by simp (disch := omega) only [qI_lit, qI_m1, qI_add, qI_mul, qI_le, qI_lt, qI_inj, qI_ne_m, m_ne_nI, m_lt_nI, m_le_nI, qI_lt_m, qI_le_m, qI_sub, qI_div, qI_rem, bI_0, bI_1]; omega)]
    rw [show j = 8 by omega] at h
    exact ⟨σ, rfl, h⟩
  | succ m ih =>
    intro n g σ hg hn h
    obtain ⟨n, rfl⟩ : ∃ n', n = n' + 1 := ⟨n - 1, by omega⟩
    obtain ⟨t0, t1, t2, o13, o14⟩ := tb111 g (by omega)
    have hr : wD W g 0 0 0 5 ≠ 0 := r
    have y13 : ∀ k, wD W g 0 13 g k = 0 := fun k => by unfold wD; rw [if_neg (by omega), if_neg (by omega), if_neg (by omega), if_neg (by omega), if_neg (by omega), if_neg (by omega)]; exact z13 _ k
    have y14 : ∀ k, wD W g 0 14 g k = 0 := fun k => by unfold wD; rw [if_neg (by omega), if_neg (by omega), if_neg (by omega), if_neg (by omega), if_neg (by omega), if_neg (by omega)]; exact z14 _ k
    have g1 := h.zr (F := 13) (i := g) (by omega) y13
    -- the boxes of one kiosk
    have g2' := g1.zr (F := 14) (i := g) (by omega) y14
    have g2 := g2'.wr (F := 13) (i := g) (q := 0) (v := 1) (by decide)
    have g2w := g2.to (W' := wD (up W 13 g 0 1) g 0) (fun F i k _ => by
      by_cases e : F = 13 ∧ i = g ∧ k = 0
      · rw [e.1, e.2.1, e.2.2, up_yes]; unfold wD
        rw [if_neg (by omega), if_neg (by omega), if_neg (by omega), if_neg (by omega), if_neg (by omega), if_neg (by omega), up_yes]
      · rw [up_no e]; unfold wD; rw [up_no e])
    obtain ⟨s3, e3, g3⟩ := C14_lp (W := up W 13 g 0 1) (g := g) (by omega) (by rw [up_yes]; decide) (fun i k => by rw [up_no (by omega)]; exact z16 i k) (fun i k => by rw [up_no (by omega)]; exact z17 i k) (kk := fun s14 => bb_nw (96 + 9 * g + 1) (96 + 9 * g + 1 + 8) 15 g s14 fun s40 => bb_pr s40 13 g 1 fun s42 => mm_rv s42) 3 FU 0 (mm_wI (bb_zr (bb_zr σ 13 g) 14 g) 13 g 0 1) (by omega) (by unfold FU; omega) g2w
    have g4' := g3.zr (F := 15) (i := g) (by omega) (fun k => by unfold wD; rw [if_neg (by omega), if_neg (by omega), if_neg (by omega), if_neg (by omega), if_neg (by omega), if_neg (by omega), up_no (by omega)]; exact z15 _ k)
    have g4 := g4'.wr (F := 13) (i := g) (q := 1) (v := 1) (by decide)
    have eC : f_C_init g (96 + 9 * g + 1) (96 + 9 * g + 1 + 8) (bb_zr σ 13 g) = mm_rv (mm_wI (bb_zr s3 15 g) 13 g 1 1) := by
      unfold f_C_init
      rw [nw_ok g1 ⟨by omega, by omega, t1⟩, pr_ok g2' ⟨by omega, by decide, show g < 8 by omega⟩]
      refine Eq.trans e3 ?_
      rw [nw_ok g3 ⟨by omega, by omega, t2⟩, pr_ok g4' ⟨by omega, by decide, show g < 8 by omega⟩]
    have g5 := g4.wr (F := 12) (i := 0) (q := g) (v := 1) (by decide)
    unfold lp_X_init_111
    rw [if_neg (by simp (disch := omega) only [qI_lit, qI_m1, qI_add, qI_mul, qI_le, qI_lt, qI_inj, qI_ne_m, m_ne_nI, m_lt_nI, m_le_nI, qI_lt_m, qI_le_m, qI_sub, qI_div, qI_rem, bI_0, bI_1]; omega)]
    show ∃ σ', bb_gr σ 0 0 5 _ = _ ∧ _
    rw [bgr_ok h ⟨by rw [tbs.1]; omega, by decide, by decide⟩ hr, qI_nat (by omega), nw_ok h ⟨by omega, by omega, t0⟩, g1.cn, eC, bcV_ok g1 g4 ⟨by omega, by omega, by omega⟩]
    show ∃ σ', bb_on (mm_wI (bb_zr s3 15 g) 13 g 1 1) 13 g _ = _ ∧ _
    rw [on_ok g4 ⟨by omega, by decide, show g < 8 by omega⟩, sr_ok g4 ⟨by rw [tbs.2.2.2.1]; omega, by decide, by decide⟩ (by omega) (by omega), show nI g + 1 = nI (g + 1) by simp (disch := omega) only [qI_lit, qI_m1, qI_add, qI_mul, qI_le, qI_lt, qI_inj, qI_ne_m, m_ne_nI, m_lt_nI, m_le_nI, qI_lt_m, qI_le_m, qI_sub, qI_div, qI_rem, bI_0, bI_1]]
    refine ih n (g + 1) _ (by omega) (by omega) ?_
    have g6 := g5.to (W' := wD W (g + 1) 0) (fun F i k _ => by
      by_cases e12 : F = 12 ∧ i = 0 ∧ k = g
      · rw [e12.1, e12.2.1, e12.2.2, up_yes]; unfold wD
        rw [if_neg (by omega), if_neg (by omega), if_neg (by omega), if_neg (by omega), if_neg (by omega), if_pos (by omega)]
      rw [up_no e12]
      by_cases e13 : F = 13 ∧ i = g
      · obtain ⟨rfl, rfl⟩ := e13
        by_cases k1 : k = 1
        · rw [k1, up_yes]; unfold wD; rw [if_neg (by omega), if_neg (by omega), if_neg (by omega), if_neg (by omega), if_pos (by omega)]
        rw [up_no (by omega)]
        unfold wD
        by_cases k0 : k = 0
        · rw [k0]
          repeat rw [if_neg (by omega)]
          rw [if_pos (by omega), up_yes]
          repeat rw [if_neg (by omega)]
        · rw [up_no (by omega)]
          repeat rw [if_neg (by omega)]
      · rw [up_no (by omega)]
        unfold wD
        rw [up_no (by omega)]
        have a1 : (F = 16 ∧ i < 3 * (g + 1) + 0 ∧ k = 0) = (F = 16 ∧ i < 3 * g + 3 ∧ k = 0) := propext (by omega)
        have a2 : (F = 16 ∧ i < 3 * (g + 1) + 0 ∧ k = 3) = (F = 16 ∧ i < 3 * g + 3 ∧ k = 3) := propext (by omega)
        have a5 : (F = 13 ∧ i < g + 1 ∧ k < 2) = (F = 13 ∧ i < g ∧ k < 2) := propext (by omega)
        have a6 : (F = 12 ∧ i = 0 ∧ k < g + 1) = (F = 12 ∧ i = 0 ∧ k < g) := propext (by omega)
        have a4 : (F = 14 ∧ i = g + 1 ∧ k < 0) = False := propext ⟨fun h => by omega, fun h => h.elim⟩
        simp only [a1, a2, a4, a5, a6, if_false]
        by_cases e14 : F = 14 ∧ i = g ∧ k < 3
        · rw [if_neg (by omega), if_neg (by omega), if_pos (by omega), if_neg (by omega), if_neg (by omega), if_neg (by omega), if_pos e14]
        · have a7 : (F = 14 ∧ i < g + 1 ∧ k < 3) = (F = 14 ∧ i < g ∧ k < 3) := propext (by omega)
          have a8 : (F = 14 ∧ i = g ∧ k < 3) = False := propext ⟨fun h => e14 h, fun h => h.elim⟩
          simp only [a7, a8, if_false])
    rw [show 96 + 9 * (g + 1) = 96 + 9 * g + 8 + 1 by omega]; exact g6
theorem X147_lp (r : W 0 0 6 ≠ 0) (z18 : ∀ k, W 18 0 k = 0) (z19 : ∀ i k, W 19 i k = 0) (z20 : ∀ i k, W 20 i k = 0) : ∀ (m n j : Nat) (σ : Mem), j + m = 16 → m < n → Iv (169 + 2 * j) (wE W j) σ → ∃ σ', lp_X_init_147 1 214 kk n (nI j) σ = kk σ' ∧ Iv 201 (wE W 16) σ' := by
  intro m
  induction m with
  | zero =>
    intro n j σ hj hn h
    obtain ⟨n, rfl⟩ : ∃ n', n = n' + 1 := ⟨n - 1, by omega⟩
    unfold lp_X_init_147
    rw [if_pos (by simp (disch := omega) only [qI_lit, qI_m1, qI_add, qI_mul, qI_le, qI_lt, qI_inj, qI_ne_m, m_ne_nI, m_lt_nI, m_le_nI, qI_lt_m, qI_le_m, qI_sub, qI_div, qI_rem, bI_0, bI_1]; omega)]
    rw [show j = 16 by omega] at h
    exact ⟨σ, rfl, h⟩
  | succ m ih =>
    intro n j σ hj hn h
    obtain ⟨n, rfl⟩ : ∃ n', n = n' + 1 := ⟨n - 1, by omega⟩
    obtain ⟨t0, t1, o19⟩ := tb147 j (by omega)
    have hr : wE W j 0 0 6 ≠ 0 := r
    have g1 := h.zr (F := 19) (i := j) (by omega) (fun k => by unfold wE; rw [if_neg (by omega), if_neg (by omega)]; exact z19 j k)
    obtain ⟨s2, e2, g2⟩ := L_init (i := j) g1 (by omega) t1 (by omega) (by omega) (z20 j)
    have g3 := g2.wr (F := 18) (i := 0) (q := j) (v := 1) (by decide)
    unfold lp_X_init_147
    rw [if_neg (by simp (disch := omega) only [qI_lit, qI_m1, qI_add, qI_mul, qI_le, qI_lt, qI_inj, qI_ne_m, m_ne_nI, m_lt_nI, m_le_nI, qI_lt_m, qI_le_m, qI_sub, qI_div, qI_rem, bI_0, bI_1]; omega)]
    show ∃ σ', bb_gr σ 0 0 6 _ = _ ∧ _
    rw [bgr_ok h ⟨by rw [tbs.1]; omega, by decide, by decide⟩ hr, qI_nat (by omega), nw_ok h ⟨by omega, by omega, t0⟩, g1.cn, e2, bcV_ok g1 g2 ⟨by omega, by omega, by omega⟩]
    show ∃ σ', bb_on s2 19 j _ = _ ∧ _
    rw [on_ok g2 ⟨by omega, by decide, show j < 16 by omega⟩, sr_ok g2 ⟨by rw [tbs.2.2.2.2.1]; omega, by decide, by decide⟩ (by omega) (by omega), show nI j + 1 = nI (j + 1) by simp (disch := omega) only [qI_lit, qI_m1, qI_add, qI_mul, qI_le, qI_lt, qI_inj, qI_ne_m, m_ne_nI, m_lt_nI, m_le_nI, qI_lt_m, qI_le_m, qI_sub, qI_div, qI_rem, bI_0, bI_1]]
    refine ih n (j + 1) _ (by omega) (by omega) ?_
    have g4 := g3.to (W' := wE W (j + 1)) (fun F i k _ => by
      by_cases e18 : F = 18 ∧ i = 0 ∧ k = j
      · rw [e18.1, e18.2.1, e18.2.2, up_yes]; unfold wE; rw [if_neg (by omega), if_pos (by omega)]
      rw [up_no e18]
      by_cases e19 : F = 19 ∧ i = j ∧ k = 10
      · rw [e19.1, e19.2.1, e19.2.2, up_yes]; unfold wE; rw [if_pos (by omega)]
      rw [up_no e19]
      unfold wE
      have a1 : (F = 19 ∧ i < j + 1 ∧ k = 10) = (F = 19 ∧ i < j ∧ k = 10) := propext (by omega)
      have a2 : (F = 18 ∧ i = 0 ∧ k < j + 1) = (F = 18 ∧ i = 0 ∧ k < j) := propext (by omega)
      simp only [a1, a2])
    rw [show 169 + 2 * (j + 1) = 169 + 2 * j + 1 + 1 by omega]; exact g4
end

-- post of the reference
section
variable {s : Mem} {A : Ab} {c : Nat} {x1 x2 x3 x4 : Int32}
theorem M_turned {x : Int32} : f_M_turned x s = mm_ri (trn x) s := rfl
theorem M_post_lp (h32 : A.txt.length ≤ 32) {i : Nat} (hi : i < 12) (hn : A.L.n < 16) {kk : Mem → RR} : ∀ (m n j : Nat) (s : Mem), j + m = A.txt.length → m < n → s.1 30 0 30 = nI A.txt.length → (∀ j b, A.txt[j]? = some b → s.1 57 0 j = nI b) → s.1 42 0 A.L.n = sumF (txF A) j →
    ∃ s', lp_M_post_181 (nI i) x2 (nI A.L.n) kk n (nI j) s = kk s' ∧ s'.1 42 0 A.L.n = sumF (txF A) A.txt.length ∧ (∀ l, l ≠ A.L.n → s'.1 42 0 l = s.1 42 0 l) ∧
      (∀ k, s'.1 46 0 k = if 64 * i + 4 * A.L.n + j / 8 ≤ k ∧ k < 64 * i + 4 * A.L.n + pc A.txt.length ∧ j < A.txt.length then nI 1 else s.1 46 0 k) ∧
      (∀ k, s'.1 47 0 k = if 64 * i + 4 * A.L.n + j / 8 ≤ k ∧ k < 64 * i + 4 * A.L.n + pc A.txt.length ∧ j < A.txt.length then nI 0 else s.1 47 0 k) ∧
      (∀ k, s'.1 49 0 k = if 512 * i + 32 * A.L.n + j ≤ k ∧ k < 512 * i + 32 * A.L.n + A.txt.length then nI (txF A (k - (512 * i + 32 * A.L.n))) else s.1 49 0 k) ∧
      (∀ F, F ≠ 42 → F ≠ 46 → F ≠ 47 → F ≠ 49 → s'.1 F = s.1 F) ∧ s'.2 = s.2 := by
  intro m
  induction m with
  | zero =>
    intro n j s hj hn' h30 h57 h42
    obtain ⟨n, rfl⟩ : ∃ n', n = n' + 1 := ⟨n - 1, by omega⟩
    unfold lp_M_post_181
    rw [gf_ok, h30, if_pos (by simp (disch := omega) only [qI_lit, qI_m1, qI_add, qI_mul, qI_le, qI_lt, qI_inj, qI_ne_m, m_ne_nI, m_lt_nI, m_le_nI, qI_lt_m, qI_le_m, qI_sub, qI_div, qI_rem, bI_0, bI_1]; omega)]
    refine ⟨s, rfl, by rw [h42, show j = A.txt.length by omega], fun _ _ => rfl, fun k => ?_, fun k => ?_, fun k => ?_, fun _ _ _ _ _ => rfl, rfl⟩
    · rw [if_neg (by omega)]
    · rw [if_neg (by omega)]
    · rw [if_neg (by omega)]
  | succ m ih =>
    intro n j s hj hn' h30 h57 h42
    obtain ⟨n, rfl⟩ : ∃ n', n = n' + 1 := ⟨n - 1, by omega⟩
    unfold lp_M_post_181
    have hjl : j < A.txt.length := by omega
    have htx : s.1 57 0 j = nI (txF A j) := h57 j _ (by unfold txF; rw [List.getD, List.getElem?_eq_getElem hjl]; rfl)
    have e1 : nI j + 1 = nI (j + 1) := by simp (disch := omega) only [qI_lit, qI_m1, qI_add, qI_mul, qI_le, qI_lt, qI_inj, qI_ne_m, m_ne_nI, m_lt_nI, m_le_nI, qI_lt_m, qI_le_m, qI_sub, qI_div, qI_rem, bI_0, bI_1]
    rw [gf_ok, h30, if_neg (by simp (disch := omega) only [qI_lit, qI_m1, qI_add, qI_mul, qI_le, qI_lt, qI_inj, qI_ne_m, m_ne_nI, m_lt_nI, m_le_nI, qI_lt_m, qI_le_m, qI_sub, qI_div, qI_rem, bI_0, bI_1]; omega), ld_ok (by omega) (by omega), M_turned, cI_ok, ld_ok (by omega) (by omega), htx, h42, st_ok (by omega) (by omega), show (8 : Int32) = nI 8 from rfl, qI_div (by omega) (by omega), M_at, cI_ok, show (1 : Int32) = bI true from rfl, sz_okb (by omega) (by omega), st_ok (by omega) (by omega), ld_ok (by omega) (by omega), wI_ne (by decide), wI_ne (by decide), wI_ne (by decide), htx, qI_rem (by omega) (by omega), qI_mul, qI_add, st_ok (by omega) (by omega), show nI j + bI true = nI (j + 1) from e1]
    obtain ⟨s', e2, r1, r2, r3, r4, r5, r6, r7⟩ := ih n (j + 1) (mm_wI (mm_wI (mm_wI (mm_wI s 42 0 A.L.n (trn (sumF (txF A) j) ^^^ nI (txF A j))) 46 0 (64 * i + 4 * A.L.n + j / 8) (bI true)) 47 0 (64 * i + 4 * A.L.n + j / 8) 0) 49 0 (8 * (64 * i + 4 * A.L.n + j / 8) + j % 8) (nI (txF A j))) (by omega) (by omega) (by rw [wI_ne (by decide), wI_ne (by decide), wI_ne (by decide), wI_ne (by decide)]; exact h30) (by rw [wI_ne (by decide), wI_ne (by decide), wI_ne (by decide), wI_ne (by decide)]; exact h57) (by rw [wI_ne (by decide), wI_ne (by decide), wI_ne (by decide), wI_y]; rfl)
    refine ⟨s', e2, r1, fun l hl => ?_, fun k => ?_, fun k => ?_, fun k => ?_, fun F g1 g2 g3 g4 => ?_, by rw [r7]; rfl⟩
    · rw [r2 l hl, wI_ne (by decide), wI_ne (by decide), wI_ne (by decide), wI_n (by omega)]
    · rw [r3 k, wI_ne (by decide), wI_ne (by decide)]
      by_cases e : k = 64 * i + 4 * A.L.n + j / 8
      · rw [e, wI_y, if_pos (c := _ ∧ _ ∧ j < A.txt.length) (by unfold pc; omega)]
        split <;> rfl
      · rw [wI_n (by omega), wI_ne (by decide)]
        by_cases e2 : 64 * i + 4 * A.L.n + j / 8 ≤ k ∧ k < 64 * i + 4 * A.L.n + pc A.txt.length ∧ j < A.txt.length
        · rw [if_pos e2, if_pos (by unfold pc at *; omega)]
        · rw [if_neg e2, if_neg (by unfold pc at *; omega)]
    · rw [r4 k, wI_ne (by decide)]
      by_cases e : k = 64 * i + 4 * A.L.n + j / 8
      · rw [e, wI_y, if_pos (c := _ ∧ _ ∧ j < A.txt.length) (by unfold pc; omega)]
        split <;> rfl
      · rw [wI_n (by omega), wI_ne (by decide), wI_ne (by decide)]
        by_cases e2 : 64 * i + 4 * A.L.n + j / 8 ≤ k ∧ k < 64 * i + 4 * A.L.n + pc A.txt.length ∧ j < A.txt.length
        · rw [if_pos e2, if_pos (by unfold pc at *; omega)]
        · rw [if_neg e2, if_neg (by unfold pc at *; omega)]
    · rw [r5 k]
      by_cases e : k = 512 * i + 32 * A.L.n + j
      · have e3 : 8 * (64 * i + 4 * A.L.n + j / 8) + j % 8 = 512 * i + 32 * A.L.n + j := by omega
        rw [if_neg (by omega), e3, e, wI_y, if_pos (by omega)]
        congr 2; omega
      · rw [wI_n (by omega), wI_ne (by decide), wI_ne (by decide), wI_ne (by decide)]
        by_cases e2 : 512 * i + 32 * A.L.n + (j + 1) ≤ k ∧ k < 512 * i + 32 * A.L.n + A.txt.length
        · rw [if_pos e2, if_pos (by omega)]
        · rw [if_neg e2, if_neg (by omega)]
    · rw [r6 F g1 g2 g3 g4, wI_ne g4, wI_ne g3, wI_ne g2, wI_ne g1]
end

section
variable {t : Nat} {L : List Hlt}
theorem T_takeOut_lp (hlen : L.length ≤ 24) {kk : Mem → RR} : ∀ (m n j : Nat) (s : Mem), j + m + 1 = L.length → m < n → s.1 1 t 3 = nI (L.length - 1) → (∀ i x, j < i → L[i]? = some x → rowT s t i x) →
    ∃ s', lp_T_takeOut_12 t kk n (nI j) s = kk s' ∧ (∀ i x, j ≤ i → L[i + 1]? = some x → rowT s' t i x) ∧ (∀ i, i < j → ∀ F, s'.1 F t i = s.1 F t i) ∧ s'.1 1 = s.1 1 ∧ FrT t s s' := by
  intro m
  induction m with
  | zero =>
    intro n j s hp hn hc hr
    obtain ⟨n, rfl⟩ : ∃ n', n = n' + 1 := ⟨n - 1, by omega⟩
    unfold lp_T_takeOut_12
    rw [gf_ok, hc, if_pos (by simp (disch := omega) only [qI_lit, qI_m1, qI_add, qI_mul, qI_le, qI_lt, qI_inj, qI_ne_m, m_ne_nI, m_lt_nI, m_le_nI, qI_lt_m, qI_le_m, qI_sub, qI_div, qI_rem, bI_0, bI_1]; omega)]
    exact ⟨s, rfl, fun i x h1 h2 => by have := (List.getElem?_eq_some_iff.mp h2).1; omega, fun _ _ _ => rfl, rfl, FrT.rf⟩
  | succ m ih =>
    intro n j s hp hn hc hr
    obtain ⟨n, rfl⟩ : ∃ n', n = n' + 1 := ⟨n - 1, by omega⟩
    unfold lp_T_takeOut_12
    have hj : j + 1 < L.length := by omega
    obtain ⟨r1, r2, r3⟩ := hr (j + 1) _ (by omega) (List.getElem?_eq_getElem hj)
    rw [gf_ok, hc, if_neg (by simp (disch := omega) only [qI_lit, qI_m1, qI_add, qI_mul, qI_le, qI_lt, qI_inj, qI_ne_m, m_ne_nI, m_lt_nI, m_le_nI, qI_lt_m, qI_le_m, qI_sub, qI_div, qI_rem, bI_0, bI_1]; omega), show nI j + 1 = nI (j + 1) by simp (disch := omega) only [qI_lit, qI_m1, qI_add, qI_mul, qI_le, qI_lt, qI_inj, qI_ne_m, m_ne_nI, m_lt_nI, m_le_nI, qI_lt_m, qI_le_m, qI_sub, qI_div, qI_rem, bI_0, bI_1], ld_ok (by omega) (by omega), r1, ld_ok (by omega) (by omega), r2, ld_ok (by omega) (by omega), r3]
    obtain ⟨s1, e1, w1, k1, o1, f1⟩ := T_set (t := t) (s := s) (j := j) (by omega) L[j + 1]
    rw [e1, cV_ok]
    obtain ⟨s2, e2, h1, h2, h3, f2⟩ := ih n (j + 1) s1 (by omega) (by omega) (by rw [o1]; exact hc) (fun i x g1 g2 => (hr i x (by omega) g2).of (k1 i (by omega)))
    refine ⟨s2, e2, fun i x g1 g2 => ?_, fun i g1 F => (h2 i (by omega) F).trans (k1 i (by omega) F), h3.trans o1, f1.tr f2⟩
    by_cases e : i = j
    · subst e
      rw [List.getElem?_eq_getElem hj] at g2
      cases g2
      exact w1.of (h2 i (by omega))
    · exact h1 i x (by omega) g2
theorem erase_perm {a : Nat} (ha : a < L.length) : (L[a] :: L.eraseIdx a).Perm L := by
  rw [List.eraseIdx_eq_take_drop_succ]
  have h := List.perm_middle (a := L[a]) (l₁ := L.take a) (l₂ := L.drop (a + 1))
  rw [← List.drop_eq_getElem_cons ha, List.take_append_drop] at h
  exact h.symm
theorem T_takeOut_n {s : Mem} (hT : TabC s t L) (hs : SrtT L) (hlen : L.length ≤ 24) {a : Nat} (ha : a < L.length) {n : Nat} (hn : L.length < n) :
    ∃ s', lp_T_takeOut_12 t (fun s12 => mm_rv s12) n (nI a) (mm_wI s 1 t 3 (nI (L.length - 1))) = mm_rv s' ∧ TabC s' t (L.eraseIdx a) ∧ SrtT (L.eraseIdx a) ∧ (L[a] :: L.eraseIdx a).Perm L ∧ FrT t s s' := by
  obtain ⟨s2, e2, h1, h2, h3, f2⟩ := T_takeOut_lp (t := t) (kk := fun s12 => mm_rv s12) hlen (L.length - 1 - a) n a (mm_wI s 1 t 3 (nI (L.length - 1))) (by omega) (by omega) wI_y (fun i x g1 g2 => by
    have hr := hT.row i x g2
    exact hr)
  refine ⟨s2, e2, ⟨?_, fun j x hx => ?_⟩, hs.sublist (List.eraseIdx_sublist _ _), erase_perm ha, (FrT.wI (by omega)).tr f2⟩
  · rw [h3, wI_y, List.length_eraseIdx, if_pos ha]
  · rw [List.getElem?_eraseIdx] at hx
    by_cases c : j < a
    · rw [if_pos c] at hx
      have hr := hT.row j x hx
      rw [h2 j c 2, h2 j c 3, h2 j c 4, wI_ne (by decide), wI_ne (by decide), wI_ne (by decide)]
      exact hr
    · rw [if_neg c] at hx
      exact h1 j x (by omega) hx
theorem T_takeOut {s : Mem} (hT : TabC s t L) (hs : SrtT L) (hlen : L.length ≤ 24) {a : Nat} (ha : a < L.length) :
    ∃ s', f_T_takeOut t (nI a) s = mm_rv s' ∧ TabC s' t (L.eraseIdx a) ∧ SrtT (L.eraseIdx a) ∧ (L[a] :: L.eraseIdx a).Perm L ∧ FrT t s s' := by
  unfold f_T_takeOut
  rw [gf_ok, hT.cnt, show nI L.length - 1 = nI (L.length - 1) by simp (disch := omega) only [qI_lit, qI_m1, qI_add, qI_mul, qI_le, qI_lt, qI_inj, qI_ne_m, m_ne_nI, m_lt_nI, m_le_nI, qI_lt_m, qI_le_m, qI_sub, qI_div, qI_rem, bI_0, bI_1]]
  exact T_takeOut_n hT hs hlen ha (n := FU) (by unfold FU; omega)
end

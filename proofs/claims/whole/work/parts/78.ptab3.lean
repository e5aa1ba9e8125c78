theorem pf_ok {s : Mem} {F i q : Nat} {v : Int32} {k : Mem → RR} : mm_pf s F i q v k = k (mm_wI s F i q v) := rfl
section
variable {t : Nat} {L : List Hlt}
theorem T_become_lp (hlen : L.length ≤ 24) (ht : t ≠ 7) {kk : Mem → RR} : ∀ (m n j : Nat) (s : Mem), j + m = L.length → m < n → s.1 1 t 3 = nI L.length → TabC s 7 L → (∀ i x, i < j → L[i]? = some x → rowT s t i x) →
    ∃ s', lp_T_become_10 t 7 kk n (nI j) s = kk s' ∧ TabC s' t L ∧ FrT t s s' := by
  intro m
  induction m with
  | zero =>
    intro n j s hp hn hc hT hr
    obtain ⟨n, rfl⟩ : ∃ n', n = n' + 1 := ⟨n - 1, by omega⟩
    unfold lp_T_become_10
    rw [gf_ok, hc, if_pos (by simp (disch := omega) only [qI_lit, qI_m1, qI_add, qI_mul, qI_le, qI_lt, qI_inj, qI_ne_m, m_ne_nI, m_lt_nI, m_le_nI, qI_lt_m, qI_le_m, qI_sub, qI_div, qI_rem, bI_0, bI_1]; omega)]
    refine ⟨s, rfl, ⟨hc, fun i x hx => ?_⟩, FrT.rf⟩
    have := (List.getElem?_eq_some_iff.mp hx).1
    exact hr i x (by omega) hx
  | succ m ih =>
    intro n j s hp hn hc hT hr
    obtain ⟨n, rfl⟩ : ∃ n', n = n' + 1 := ⟨n - 1, by omega⟩
    unfold lp_T_become_10
    have hj : j < L.length := by omega
    obtain ⟨r1, r2, r3⟩ := hT.row j _ (List.getElem?_eq_getElem hj)
    rw [gf_ok, hc, if_neg (by simp (disch := omega) only [qI_lit, qI_m1, qI_add, qI_mul, qI_le, qI_lt, qI_inj, qI_ne_m, m_ne_nI, m_lt_nI, m_le_nI, qI_lt_m, qI_le_m, qI_sub, qI_div, qI_rem, bI_0, bI_1]; omega), show nI j + 1 = nI (j + 1) by simp (disch := omega) only [qI_lit, qI_m1, qI_add, qI_mul, qI_le, qI_lt, qI_inj, qI_ne_m, m_ne_nI, m_lt_nI, m_le_nI, qI_lt_m, qI_le_m, qI_sub, qI_div, qI_rem, bI_0, bI_1], ld_ok (by omega) (by omega), r1, ld_ok (by omega) (by omega), r2, ld_ok (by omega) (by omega), r3]
    obtain ⟨s1, e1, w1, k1, o1, f1⟩ := T_set (t := t) (s := s) (j := j) (by omega) L[j]
    rw [e1, cV_ok]
    have hT1 : TabC s1 7 L := ⟨by rw [f1.2.1 1 7 (Ne.symm ht)]; exact hT.cnt, fun i x hx => by rw [f1.2.1 2 7 (Ne.symm ht), f1.2.1 3 7 (Ne.symm ht), f1.2.1 4 7 (Ne.symm ht)]; exact hT.row i x hx⟩
    obtain ⟨s2, e2, h2, f2⟩ := ih n (j + 1) s1 (by omega) (by omega) (by rw [o1]; exact hc) hT1 (fun i x g1 g2 => by
      by_cases e : i = j
      · subst e
        rw [List.getElem?_eq_getElem hj] at g2
        cases g2; exact w1
      · exact (hr i x (by omega) g2).of (k1 i e))
    exact ⟨s2, e2, h2, f1.tr f2⟩
theorem T_become_n {s : Mem} (hT : TabC s 7 L) (hlen : L.length ≤ 24) (ht : t ≠ 7) {n : Nat} (hn : L.length < n) :
    ∃ s', lp_T_become_10 t 7 (fun s10 => mm_rv s10) n (nI 0) (mm_wI s 1 t 3 (nI L.length)) = mm_rv s' ∧ TabC s' t L ∧ FrT t s s' := by
  obtain ⟨s2, e2, h2, f2⟩ := T_become_lp (t := t) (L := L) (kk := fun s10 => mm_rv s10) hlen ht L.length n 0 (mm_wI s 1 t 3 (nI L.length)) (by omega) hn wI_y ⟨by rw [wI_n (by omega)]; exact hT.cnt, fun i x hx => hT.row i x hx⟩ (fun i x g1 => by omega)
  exact ⟨s2, e2, h2, (FrT.wI (by omega)).tr f2⟩
theorem T_become {s : Mem} (hT : TabC s 7 L) (hlen : L.length ≤ 24) (ht : t ≠ 7) : ∃ s', f_T_become t 7 s = mm_rv s' ∧ TabC s' t L ∧ FrT t s s' := by
  unfold f_T_become
  rw [gf_ok, pf_ok, hT.cnt, show (0 : Int32) = nI 0 from rfl]
  exact T_become_n hT hlen ht (n := FU) (by unfold FU; omega)
end

section
variable {s : Mem} {A : Ab} {x1 x2 : Int32}
theorem X_cancel_no (h : RX s A) (ok : TabOk (A.T 7)) (hno : ∀ x ∈ A.T 7, ¬ (nI x.1 = x1 ∧ nI x.2.2 = x2)) : f_X_cancel x1 x2 s = mm_ri (nI 0) s := by
  obtain ⟨L, hL, hs, hp⟩ := h.tab 7 (by decide)
  have hlen : L.length ≤ 24 := by rw [hp.length_eq]; exact ok.2.2
  unfold f_X_cancel
  rcases T_find hlen (x1 := x1) (x2 := x2) hL with ⟨a, ha, e1, e2, e3⟩ | ⟨_, e3⟩
  · exact absurd ⟨e1, e2⟩ (hno _ (hp.mem_iff.mp (List.getElem_mem ha)))
  · rw [e3, cI_ok, if_neg (fun h9 => h9 rfl)]; rfl
theorem X_cancel_yes (h : RX s A) (ok : TabOk (A.T 7)) {a : Nat} (ha : a < (A.T 7).length) (h1 : nI (A.T 7)[a].1 = x1) (h2 : nI (A.T 7)[a].2.2 = x2) :
    ∃ s', f_X_cancel x1 x2 s = mm_ri (nI 1) s' ∧ RX s' (mkAb A.now (u1 A.T 7 (cutT (A.T 7) a)) A.pubs A.S A.L A.B A.txt) ∧ FrC s s' := by
  obtain ⟨L, hL, hs, hp⟩ := h.tab 7 (by decide)
  have hlen : L.length ≤ 24 := by rw [hp.length_eq]; exact ok.2.2
  unfold f_X_cancel
  rcases T_find hlen (x1 := x1) (x2 := x2) hL with ⟨c, hc, e1, e2, e3⟩ | ⟨hno, e3⟩
  · have hm := hp.mem_iff.mp (List.getElem_mem hc)
    have hx := ok.1 _ hm
    have hy := ok.1 _ (List.getElem_mem ha)
    have heq : L[c] = (A.T 7)[a] := ok.2.1 _ hm _ (List.getElem_mem ha) ((qI_inj (by omega) (by omega)).mp (e1.trans h1.symm)) ((qI_inj (by omega) (by omega)).mp (e2.trans h2.symm))
    obtain ⟨s1, e4, g1, g2, g3, f1⟩ := T_takeOut hL hs hlen hc
    rw [e3, cI_ok, if_pos (by show ¬ nI c = mone; rw [qI_ne_m (by omega)]; exact id), e4, cV_ok]
    refine ⟨s1, rfl, tab_upd h f1 g1 g2 ?_, FrC.ts f1⟩
    have hp2 := (g3.trans hp).trans (cutT_perm ha).symm
    rw [heq] at hp2
    exact hp2.cons_inv
  · exact absurd ⟨h1, h2⟩ (hno _ (hp.mem_iff.mpr (List.getElem_mem ha)))
theorem M_cancel_no (h : RM s A) (ok : TabOk (A.T 7)) (hno : ∀ x ∈ A.T 7, ¬ (nI x.1 = x1 ∧ nI x.2.2 = x2)) : ∃ s', f_M_cancel x1 x2 s = mm_ri (nI 0) s' ∧ RM s' A ∧ FrN s s' := by
  have h1 := h.thr (v := 0)
  have hT := h1.tab 7 (by decide)
  unfold f_M_cancel
  rw [pf_ok]
  rcases M_stopAt ok.2.2 (x1 := x1) (x2 := x2) hT with ⟨a, ha, e1, e2, e3⟩ | ⟨_, e3⟩
  · exact absurd ⟨e1, e2⟩ (hno _ (List.getElem_mem ha))
  · rw [e3, cI_ok, if_neg (by decide)]
    exact ⟨_, rfl, h1, FrN.wI (by omega)⟩
theorem M_cancel_yes (h : RM s A) (ok : TabOk (A.T 7)) (okA : ∀ t, t < 8 → (A.T t).length ≤ 24) (hc : ∃ x ∈ A.T 7, nI x.1 = x1 ∧ nI x.2.2 = x2) :
    ∃ s' a, ∃ ha : a < (A.T 7).length, nI (A.T 7)[a].1 = x1 ∧ nI (A.T 7)[a].2.2 = x2 ∧ f_M_cancel x1 x2 s = mm_ri (nI 1) s' ∧ RM s' (mkAb A.now (u1 A.T 7 (cutT (A.T 7) a)) A.pubs A.S A.L A.B A.txt) ∧ FrN s s' := by
  have h1 := h.thr (v := 0)
  have hT := h1.tab 7 (by decide)
  have h24 := ok.2.2
  unfold f_M_cancel
  rw [pf_ok]
  rcases M_stopAt ok.2.2 (x1 := x1) (x2 := x2) hT with ⟨a, ha, e1, e2, e3⟩ | ⟨hno, e3⟩
  · obtain ⟨s1, e4, g1, g2, f1⟩ := M_cut hT h24 ha
    rw [e3, cI_ok, if_pos (by simp (disch := omega) only [qI_lit, qI_m1, qI_add, qI_mul, qI_le, qI_lt, qI_inj, qI_ne_m, m_ne_nI, m_lt_nI, m_le_nI, qI_lt_m, qI_le_m, qI_sub, qI_div, qI_rem, bI_0, bI_1]; omega), show (7 : Int32) = nI 7 from rfl, ld_ok (by decide) (by decide), hT.cnt, show nI (A.T 7).length - 1 = nI ((A.T 7).length - 1) by simp (disch := omega) only [qI_lit, qI_m1, qI_add, qI_mul, qI_le, qI_lt, qI_inj, qI_ne_m, m_ne_nI, m_lt_nI, m_le_nI, qI_lt_m, qI_le_m, qI_sub, qI_div, qI_rem, bI_0, bI_1], st_ok (by decide) (by decide), ld_ok (by decide) (by decide), wI_y, show 168 + nI ((A.T 7).length - 1) = nI (168 + ((A.T 7).length - 1)) by simp only [qI_lit, qI_add], e4, cV_ok]
    exact ⟨s1, a, ha, e1, e2, rfl, M_tab_upd h1 f1 g1 (fun t ht => g2 t ht _ (okA t (by omega)) (h1.tab t (by omega))), (FrN.wI (by omega)).tr (FrN.ds f1)⟩
  · obtain ⟨x, hx, hx1⟩ := hc
    exact absurd hx1 (hno x hx)
end

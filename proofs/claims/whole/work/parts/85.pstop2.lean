section
variable {s : Mem} {A : Ab}
theorem X_stop_no (h : RX s A) (ok : TabOk (A.T 7)) {b k m : Nat} (hb : 8 ≤ b ∧ b < 12) (hk : k < 8) (hm : m < 10080) (hc : hasT (A.T 7) b m ∨ (A.T 7).length = 24) : f_X_stop (nI b) (nI k) (nI m) s = mm_th 2 s := by
  obtain ⟨L, hL, hs, hp⟩ := h.tab 7 (by decide)
  have hlen : L.length ≤ 24 := by rw [hp.length_eq]; exact ok.2.2
  rw [X_stop_go hb hk hm]
  rcases T_find hlen (x1 := nI b) (x2 := nI m) hL with ⟨a, ha, e1, e2, e3⟩ | ⟨hno, e3⟩
  · rw [e3, cI_ok, if_pos (by show ¬ nI a = mone; rw [qI_ne_m (by omega)]; exact id)]
  · rw [e3, cI_ok, if_neg (fun h9 => h9 rfl)]
    rcases hc with ⟨x, hx, hx1, hx2⟩ | hfull
    · exact absurd ⟨congrArg nI hx1, congrArg nI hx2⟩ (hno x (hp.mem_iff.mpr hx))
    · rw [gf_ok, hL.cnt, hp.length_eq, hfull, if_neg (fun h9 => h9 rfl)]
theorem X_stop_yes (h : RX s A) (ok : TabOk (A.T 7)) {b k m : Nat} (hb : 8 ≤ b ∧ b < 12) (hk : k < 8) (hm : m < 10080) (hn : ¬ hasT (A.T 7) b m) (hl : (A.T 7).length ≠ 24) :
    ∃ s', f_X_stop (nI b) (nI k) (nI m) s = mm_ri (nI ((A.T 7).length + 1)) s' ∧ RX s' (mkAb A.now (u1 A.T 7 (A.T 7 ++ [(b, k, m)])) A.pubs A.S A.L A.B A.txt) ∧ FrC s s' := by
  obtain ⟨L, hL, hs, hp⟩ := h.tab 7 (by decide)
  have hlen : L.length ≤ 24 := by rw [hp.length_eq]; exact ok.2.2
  have hbd : ∀ x ∈ L, 8 ≤ x.1 ∧ x.1 < 12 ∧ x.2.1 < 8 ∧ x.2.2 < 10080 := fun x hx => ok.1 x (hp.mem_iff.mp hx)
  rw [X_stop_go hb hk hm]
  rcases T_find hlen (x1 := nI b) (x2 := nI m) hL with ⟨a, ha, e1, e2, e3⟩ | ⟨hno, e3⟩
  · have hx := hbd L[a] (List.getElem_mem ha)
    exact absurd ⟨L[a], hp.mem_iff.mp (List.getElem_mem ha), (qI_inj (by omega) (by omega)).mp e1, (qI_inj (by omega) (by omega)).mp e2⟩ hn
  · have h24 : ¬ nI L.length = 24 := by
      rw [show (24 : Int32) = nI 24 from rfl, qI_inj (by omega) (by omega), hp.length_eq]; exact hl
    obtain ⟨s1, L1, e4, h1, h2, h3, f1⟩ := T_insert hL hs (by have := hp.length_eq; have := ok.2.2; omega) (fun x hx => (hbd x hx).2.2.2) (x := (b, k, m)) hm
    rw [e3, cI_ok, if_neg (fun h9 => h9 rfl), gf_ok, hL.cnt, if_pos h24]
    have e4' : f_T_insert 7 (nI b) (nI k) (nI m) s = mm_rv s1 := e4
    rw [e4', cV_ok, gf_ok, h1.cnt, h3.length_eq, List.length_cons, hp.length_eq]
    refine ⟨s1, rfl, tab_upd h f1 h1 h2 (h3.trans ((hp.cons _).trans (List.perm_append_comm (l₁ := [(b, k, m)]) (l₂ := A.T 7)))), FrC.ts f1⟩
end

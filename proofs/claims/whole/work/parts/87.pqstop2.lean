section
variable {s : Mem} {A : Ab} {x1 x2 x3 : Int32}
theorem M_stop_bad (hg : (inR 8 12 x1 && inR 0 8 x2 && inR 0 10080 x3) = false) : f_M_stop x1 x2 x3 s = mm_ri (nI 0) (mm_wI s 30 0 31 (nI 1)) := by
  unfold f_M_stop
  rw [M_isBus, cI_ok]
  simp only [mm_jn]
  rw [M_isKiosk, cI_ok, show (10079 : Int32) = nI 10079 from rfl, M_upTo (by decide), cI_ok]
  have key : (mm_pf s 30 0 31 1 fun s67 => mm_gf s67 30 0 31 fun v71 => if v71 = 0 then (mm_ld s67 34 0 8 7 fun v88 => mm_st s67 31 0 192 (168 + v88) x1 fun s99 => mm_st s99 32 0 192 (168 + v88) x2 fun s107 => mm_st s107 33 0 192 (168 + v88) x3 fun s115 => mm_ld s115 34 0 8 7 fun v123 => mm_st s115 34 0 8 7 (v123 + 1) fun s126 => mm_ld s126 34 0 8 7 fun v133 => mm_ri v133 s126) else mm_ri 0 s67) = mm_ri (nI 0) (mm_wI s 30 0 31 (nI 1)) := by
    rw [pf_ok, gf_ok, wI_y, if_neg (by decide)]; rfl
  revert hg
  cases inR 8 12 x1 <;> cases inR 0 8 x2 <;> cases inR 0 10080 x3 <;> intro hg <;> first | exact key | exact nomatch hg
theorem M_stop_go {b k m : Nat} (hb : 8 ≤ b ∧ b < 12) (hk : k < 8) (hm : m < 10080) (R : Int32 → Mem → RR) (hR : R = fun c s => mm_pf s 30 0 31 c fun s67 => mm_gf s67 30 0 31 fun v71 => if v71 = 0 then (mm_ld s67 34 0 8 7 fun v88 => mm_st s67 31 0 192 (168 + v88) (nI b) fun s99 => mm_st s99 32 0 192 (168 + v88) (nI k) fun s107 => mm_st s107 33 0 192 (168 + v88) (nI m) fun s115 => mm_ld s115 34 0 8 7 fun v123 => mm_st s115 34 0 8 7 (v123 + 1) fun s126 => mm_ld s126 34 0 8 7 fun v133 => mm_ri v133 s126) else mm_ri 0 s67) :
    f_M_stop (nI b) (nI k) (nI m) s = (mm_cI (f_M_stopAt (nI b) (nI m) s) fun v44 s44 => if 0 ≤ v44 then R 2 s44 else mm_ld s44 34 0 8 7 fun v56 => if ¬ v56 = 24 then R 0 s44 else R 2 s44) := by
  subst hR
  unfold f_M_stop
  rw [M_isBus, cI_ok]
  simp only [mm_jn]
  rw [M_isKiosk, cI_ok, show (10079 : Int32) = nI 10079 from rfl, M_upTo (by decide), cI_ok, inR_nI (by decide) (by decide) (by omega), inR_nI (by decide) (by decide) (by omega), inR_nI (by decide) (by decide) (by omega), decide_eq_true hb, decide_eq_true (show 0 ≤ k ∧ k < 8 by omega), decide_eq_true (show 0 ≤ m ∧ m < 10079 + 1 by omega), if_neg (by decide), if_neg (by decide), if_neg (by decide), if_pos (by decide)]
theorem M_stop_no (h : RM s A) (ok : TabOk (A.T 7)) {b k m : Nat} (hb : 8 ≤ b ∧ b < 12) (hk : k < 8) (hm : m < 10080) (hc : hasT (A.T 7) b m ∨ (A.T 7).length = 24) : f_M_stop (nI b) (nI k) (nI m) s = mm_ri (nI 0) (mm_wI s 30 0 31 (nI 2)) := by
  have hT := h.tab 7 (by decide)
  rw [M_stop_go hb hk hm _ rfl]
  have key : (mm_pf s 30 0 31 2 fun s67 => mm_gf s67 30 0 31 fun v71 => if v71 = 0 then (mm_ld s67 34 0 8 7 fun v88 => mm_st s67 31 0 192 (168 + v88) (nI b) fun s99 => mm_st s99 32 0 192 (168 + v88) (nI k) fun s107 => mm_st s107 33 0 192 (168 + v88) (nI m) fun s115 => mm_ld s115 34 0 8 7 fun v123 => mm_st s115 34 0 8 7 (v123 + 1) fun s126 => mm_ld s126 34 0 8 7 fun v133 => mm_ri v133 s126) else mm_ri 0 s67) = mm_ri (nI 0) (mm_wI s 30 0 31 (nI 2)) := by
    rw [pf_ok, gf_ok, wI_y, if_neg (by decide)]; rfl
  rcases M_stopAt ok.2.2 (x1 := nI b) (x2 := nI m) hT with ⟨a, ha, e1, e2, e3⟩ | ⟨hno, e3⟩
  · have := ok.2.2
    rw [e3, cI_ok, if_pos (by simp (disch := omega) only [qI_lit, qI_m1, qI_add, qI_mul, qI_le, qI_lt, qI_inj, qI_ne_m, m_ne_nI, m_lt_nI, m_le_nI, qI_lt_m, qI_le_m, qI_sub, qI_div, qI_rem, bI_0, bI_1]; omega)]; exact key
  · rw [e3, cI_ok, if_neg (by decide), show (7 : Int32) = nI 7 from rfl, ld_ok (by decide) (by decide), hT.cnt]
    rcases hc with ⟨x, hx, hx1, hx2⟩ | hfull
    · exact absurd ⟨congrArg nI hx1, congrArg nI hx2⟩ (hno x hx)
    · rw [hfull, if_neg (fun h9 => h9 rfl)]; exact key
theorem TabM.thr {t : Nat} {T : List Hlt} (h : TabM s t T) {v : Int32} : TabM (mm_wI s 30 0 31 v) t T := ⟨h.cnt, h.row⟩
theorem M_stop_yes (h : RM s A) (ok : TabOk (A.T 7)) (okA : ∀ t, t < 8 → (A.T t).length ≤ 24) {b k m : Nat} (hb : 8 ≤ b ∧ b < 12) (hk : k < 8) (hm : m < 10080) (hn : ¬ hasT (A.T 7) b m) (hl : (A.T 7).length ≠ 24) :
    ∃ s', f_M_stop (nI b) (nI k) (nI m) s = mm_ri (nI ((A.T 7).length + 1)) s' ∧ s'.1 30 0 31 = nI 0 ∧ RM s' (mkAb A.now (u1 A.T 7 (A.T 7 ++ [(b, k, m)])) A.pubs A.S A.L A.B A.txt) ∧ FrN s s' := by
  have hT := h.tab 7 (by decide)
  have h24 := ok.2.2
  rw [M_stop_go hb hk hm _ rfl]
  rcases M_stopAt ok.2.2 (x1 := nI b) (x2 := nI m) hT with ⟨a, ha, e1, e2, e3⟩ | ⟨hno, e3⟩
  · have hx := ok.1 (A.T 7)[a] (List.getElem_mem ha)
    exact absurd ⟨(A.T 7)[a], List.getElem_mem ha, (qI_inj (by omega) (by omega)).mp e1, (qI_inj (by omega) (by omega)).mp e2⟩ hn
  · have hT0 := hT.thr (v := 0)
    have h1 := h.thr (v := 0)
    rw [e3, cI_ok, if_neg (by decide), show (7 : Int32) = nI 7 from rfl, ld_ok (by decide) (by decide), hT.cnt, if_pos (by rw [show (24 : Int32) = nI 24 from rfl, qI_inj (by omega) (by omega)]; exact hl)]
    show ∃ s', (mm_pf s 30 0 31 0 fun s67 => mm_gf s67 30 0 31 fun v71 => if v71 = 0 then _ else _) = _ ∧ _
    rw [pf_ok, gf_ok, wI_y, if_pos rfl, ld_ok (by decide) (by decide), hT0.cnt, show 168 + nI (A.T 7).length = nI (168 + (A.T 7).length) by simp only [qI_lit, qI_add], st_ok (by omega) (by omega), st_ok (by omega) (by omega), st_ok (by omega) (by omega), ld_ok (by decide) (by decide), wI_ne (by decide), wI_ne (by decide), wI_ne (by decide), hT0.cnt, show nI (A.T 7).length + 1 = nI ((A.T 7).length + 1) by simp only [qI_lit, qI_add], st_ok (by decide) (by decide), ld_ok (by decide) (by decide), wI_y]
    have hD : FrD (mm_wI s 30 0 31 0) (mm_wI (mm_wI (mm_wI (mm_wI (mm_wI s 30 0 31 0) 31 0 (168 + (A.T 7).length) (nI b)) 32 0 (168 + (A.T 7).length) (nI k)) 33 0 (168 + (A.T 7).length) (nI m)) 34 0 7 (nI ((A.T 7).length + 1))) := (FrD.wI (by omega)).tr ((FrD.wI (by omega)).tr ((FrD.wI (by omega)).tr (FrD.wI (by omega))))
    refine ⟨_, rfl, ?_, M_tab_upd h1 hD (TabM_add (x := (b, k, m)) hT0) (fun t ht => ?_), (FrN.wI (by omega)).tr (FrN.ds hD)⟩
    · rw [(hD 30 (by omega)).1, wI_y]; rfl
    · have ht0 := (h.tab t (by omega)).thr (v := 0)
      have hlt := okA t (by omega)
      refine ⟨?_, fun j x hx => ?_⟩
      · rw [wI_n (by omega), wI_ne (by decide), wI_ne (by decide), wI_ne (by decide)]; exact ht0.cnt
      · have hj := (List.getElem?_eq_some_iff.mp hx).1
        obtain ⟨r1, r2, r3⟩ := ht0.row j x hx
        refine ⟨?_, ?_, ?_⟩
        · rw [wI_ne (by decide), wI_ne (by decide), wI_ne (by decide), wI_n (by omega)]; exact r1
        · rw [wI_ne (by decide), wI_ne (by decide), wI_n (by omega), wI_ne (by decide)]; exact r2
        · rw [wI_ne (by decide), wI_n (by omega), wI_ne (by decide), wI_ne (by decide)]; exact r3
end

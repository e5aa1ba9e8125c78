section
variable {s : Mem} {A : Ab} {c : Nat} {x1 x2 x3 x4 : Int32}
theorem M_post_bad (hR : RM s A) (h32 : A.txt.length ≤ 32) (hg : (((inR 0 8 x1 && inR 0 8 x2) && inR 0 5 x3) && inR 0 3 x4) = false ∨ A.txt.length = 0) : f_M_post x1 x2 x3 x4 s = mm_ri 0 (mm_wI s 30 0 31 (nI 1)) := by
  unfold f_M_post
  simp only [mm_jn]
  rw [M_isKiosk, cI_ok]
  cases h1 : inR 0 8 x1 with
  | false => rw [if_pos (by decide), if_neg (by decide), pf_ok, gf_ok, wI_y, if_neg (by decide)]; rfl
  | true =>
    rw [if_neg (by decide), M_isKiosk, cI_ok]
    cases h2 : inR 0 8 x2 with
    | false => rw [if_pos (by decide), if_neg (by decide), pf_ok, gf_ok, wI_y, if_neg (by decide)]; rfl
    | true =>
      rw [if_neg (by decide), show (4 : Int32) = nI 4 from rfl, M_upTo (by decide), cI_ok]
      cases h3 : inR 0 (4 + 1) x3 with
      | false => rw [if_pos (by decide), if_neg (by decide), pf_ok, gf_ok, wI_y, if_neg (by decide)]; rfl
      | true =>
        rw [if_neg (by decide), show (2 : Int32) = nI 2 from rfl, M_upTo (by decide), cI_ok]
        cases h4 : inR 0 (2 + 1) x4 with
        | false => rw [if_pos (by decide), if_neg (by decide), pf_ok, gf_ok, wI_y, if_neg (by decide)]; rfl
        | true =>
          have h3' : inR 0 5 x3 = true := h3
          have h4' : inR 0 3 x4 = true := h4
          rw [h1, h2, h3', h4'] at hg
          have h0 : A.txt.length = 0 := hg.resolve_left (by decide)
          rw [if_neg (by decide), gf_ok, hR.tln, h0, if_pos (by decide), if_neg (by decide), pf_ok, gf_ok, wI_y, if_neg (by decide)]; rfl
theorem M_post_go (hR : RM s A) (h32 : A.txt.length ≤ 32) {i g a q : Nat} (hi : i < 8) (hg : g < 8) (ha : a < 5) (hq : q < 3) (h0 : A.txt.length ≠ 0) (R : Int32 → Mem → RR) (hRR : R = fun y87 s87 =>
      mm_pf s87 30 0 31 y87 fun s87 =>
      mm_gf s87 30 0 31 fun v91 =>
      if v91 = 0 then (
        mm_gf s87 30 0 7 fun v100 =>
        mm_gf s87 30 0 7 fun v107 =>
        mm_pf s87 30 0 7 (v107 + ((1 : Int32))) fun s112 =>
        mm_gf s112 30 0 30 fun v122 =>
        mm_st s112 36 0 16 v100 v122 fun s125 =>
        mm_st s125 37 0 16 v100 (nI q) fun s134 =>
        mm_st s134 38 0 16 v100 (nI i) fun s142 =>
        mm_st s142 39 0 16 v100 (nI g) fun s150 =>
        mm_st s150 40 0 16 v100 (nI a) fun s158 =>
        mm_gf s158 30 0 5 fun v166 =>
        mm_st s158 41 0 16 v100 v166 fun s169 =>
        mm_st s169 42 0 16 v100 ((0 : Int32)) fun s177 =>
        mm_lp (fun kk => lp_M_post_181 (nI i) (nI g) v100 kk FU ((0 : Int32)) s177) fun s181 =>
        mm_pf s181 30 0 30 ((0 : Int32)) fun s275 =>
        mm_ld s275 35 0 12 (nI i) fun v290 =>
        mm_gf s275 30 0 5 fun v294 =>
        mm_cI (f_M_arrival v290 (nI g) (nI i) v294 s275) fun v297 s297 =>
        mm_st s297 43 0 16 v100 v297 fun s300 =>
        mm_cV (f_M_lookAt v100 s300) fun s304 =>
        mm_ri v100 s304
      ) else (
        mm_ri ((0 : Int32)) s87
      )) :
    f_M_post (nI i) (nI g) (nI a) (nI q) s = (mm_gf s 30 0 7 fun v56 => if v56 = ((16 : Int32)) then R 2 s else (mm_cI (f_M_room (nI i) s) fun v66 s66 => mm_gf s66 30 0 30 fun v70 => if ((v70 + ((7 : Int32))) / ((8 : Int32))) ≤ v66 then R 0 s66 else R 2 s66)) := by
  have t1 : inR 0 8 (nI i) = true := by rw [inR_nI (by decide) (by decide) (by omega)]; exact decide_eq_true ⟨Nat.zero_le _, hi⟩
  have t2 : inR 0 8 (nI g) = true := by rw [inR_nI (by decide) (by decide) (by omega)]; exact decide_eq_true ⟨Nat.zero_le _, hg⟩
  have t3 : inR 0 (4 + 1) (nI a) = true := by rw [inR_nI (by decide) (by decide) (by omega)]; exact decide_eq_true ⟨Nat.zero_le _, ha⟩
  have t4 : inR 0 (2 + 1) (nI q) = true := by rw [inR_nI (by decide) (by decide) (by omega)]; exact decide_eq_true ⟨Nat.zero_le _, hq⟩
  unfold f_M_post
  simp only [mm_jn]
  rw [M_isKiosk, cI_ok, t1, if_neg (by decide), M_isKiosk, cI_ok, t2, if_neg (by decide), show (4 : Int32) = nI 4 from rfl, M_upTo (by decide), cI_ok, t3, if_neg (by decide), show f_M_upTo (nI q) 2 s = f_M_upTo (nI q) (nI 2) s from rfl, M_upTo (by decide), cI_ok, t4, if_neg (by decide), gf_ok, hR.tln, if_neg (by rw [show (0 : Int32) = nI 0 from rfl, qI_le (by omega) (by omega)]; omega), if_pos (by decide), hRR]
theorem M_post_no (hR : RM s A) (hW : WF A c) {i g a q : Nat} (hi : i < 8) (hg : g < 8) (ha : a < 5) (hq : q < 3) (h0 : A.txt.length ≠ 0) (hc : A.L.n = 16 ∨ capa i < cN (A.S.cp i) 64 + pc A.txt.length) : f_M_post (nI i) (nI g) (nI a) (nI q) s = mm_ri 0 (mm_wI s 30 0 31 (nI 2)) := by
  have h32 := hW.t32
  have hn := hW.wk.wl.n16
  have hcap := hW.ws.cap i (by omega)
  have hc24 : capa i ≤ 24 := by unfold capa; split <;> omega
  rw [M_post_go hR h32 hi hg ha hq h0 _ rfl, gf_ok, hR.ltr.n]
  by_cases e : A.L.n = 16
  · rw [e, if_pos (by decide)]
    show (mm_pf s 30 0 31 2 fun s87 => mm_gf s87 30 0 31 fun v91 => if v91 = 0 then _ else _) = _
    rw [pf_ok, gf_ok, wI_y, if_neg (by decide)]; rfl
  · rw [if_neg (by rw [show (16 : Int32) = nI 16 from rfl, qI_inj (by omega) (by omega)]; exact e), M_room hR.sto (by omega) hcap, cI_ok, gf_ok, hR.tln, show nI A.txt.length + 7 = nI (A.txt.length + 7) by simp only [qI_lit, qI_add], show (8 : Int32) = nI 8 from rfl, qI_div (by omega) (by omega), if_neg (by rw [qI_le (by omega) (by omega)]; have := hc.resolve_left e; unfold pc at this; omega)]
    show (mm_pf s 30 0 31 2 fun s87 => mm_gf s87 30 0 31 fun v91 => if v91 = 0 then _ else _) = _
    rw [pf_ok, gf_ok, wI_y, if_neg (by decide)]; rfl
theorem M_post_yes (hR : RM s A) (hW : WF A c) (hc6 : c ≤ 600) {i g a q : Nat} (hi : i < 8) (hg : g < 8) (ha : a < 5) (hq : q < 3) (h0 : A.txt.length ≠ 0) (hn : A.L.n < 16) (hr : cN (A.S.cp i) 64 + pc A.txt.length ≤ capa i) :
    ∃ s', f_M_post (nI i) (nI g) (nI a) (nI q) s = (mm_cV (f_M_lookAt (nI A.L.n) s') fun s304 => mm_ri (nI A.L.n) s304) ∧ s'.1 30 0 31 = nI 0 ∧ RM s' (oPst A i g a q) ∧ FrN s s' := by
  have h32 := hW.t32
  have hcap := hW.ws.cap i (by omega)
  have hc24 : capa i ≤ 24 := by unfold capa; split <;> omega
  have hnow := hW.now
  have hp6 := hW.pub
  have hhl := hW.hel i
  have hR1 := hR.thr (v := nI 0)
  rw [M_post_go hR h32 hi hg ha hq h0 _ rfl, gf_ok, hR.ltr.n, if_neg (by rw [show (16 : Int32) = nI 16 from rfl, qI_inj (by omega) (by omega)]; omega), M_room hR.sto (by omega) hcap, cI_ok, gf_ok, hR.tln, show nI A.txt.length + 7 = nI (A.txt.length + 7) by simp only [qI_lit, qI_add], show (8 : Int32) = nI 8 from rfl, qI_div (by omega) (by omega), if_pos (by rw [qI_le (by omega) (by omega)]; unfold pc at hr; omega)]
  show ∃ s', (mm_pf s 30 0 31 (nI 0) fun s87 => mm_gf s87 30 0 31 fun v91 => if v91 = 0 then _ else _) = _ ∧ _
  rw [pf_ok, gf_ok, wI_y, if_pos (by decide), gf_ok, hR1.ltr.n, gf_ok, hR1.ltr.n, pf_ok, show nI A.L.n + 1 = nI (A.L.n + 1) by simp only [qI_lit, qI_add], gf_ok, wI_k (by decide), hR1.tln, st_ok (by omega) (by omega), st_ok (by omega) (by omega), st_ok (by omega) (by omega), st_ok (by omega) (by omega), st_ok (by omega) (by omega), gf_ok, wI_ne (by decide), wI_ne (by decide), wI_ne (by decide), wI_ne (by decide), wI_ne (by decide), wI_k (by decide), hR1.clk, st_ok (by omega) (by omega), st_ok (by omega) (by omega)]
  generalize hs1 : mm_wI (mm_wI (mm_wI (mm_wI (mm_wI (mm_wI (mm_wI (mm_wI (mm_wI s 30 0 31 (nI 0)) 30 0 7 (nI (A.L.n + 1))) 36 0 A.L.n (nI A.txt.length)) 37 0 A.L.n (nI q)) 38 0 A.L.n (nI i)) 39 0 A.L.n (nI g)) 40 0 A.L.n (nI a)) 41 0 A.L.n (nI A.now)) 42 0 A.L.n 0 = s1
  have f1 : ∀ F, F ≠ 30 → (F < 36 ∨ 42 < F) → s1.1 F = s.1 F := by intro F h1 h2; rw [← hs1, wI_ne (by omega), wI_ne (by omega), wI_ne (by omega), wI_ne (by omega), wI_ne (by omega), wI_ne (by omega), wI_ne (by omega), wI_ne h1, wI_ne h1]
  have f1' : s1.2 = s.2 := by rw [← hs1]; rfl
  have z : ∀ k, k ≠ 31 → k ≠ 7 → s1.1 30 0 k = s.1 30 0 k := by intro k h1 h2; rw [← hs1, wI_ne (by decide), wI_ne (by decide), wI_ne (by decide), wI_ne (by decide), wI_ne (by decide), wI_ne (by decide), wI_ne (by decide), wI_k h2, wI_k h1]
  have z31 : s1.1 30 0 31 = nI 0 := by rw [← hs1, wI_ne (by decide), wI_ne (by decide), wI_ne (by decide), wI_ne (by decide), wI_ne (by decide), wI_ne (by decide), wI_ne (by decide), wI_k (by decide), wI_y]
  have z7 : s1.1 30 0 7 = nI (A.L.n + 1) := by rw [← hs1, wI_ne (by decide), wI_ne (by decide), wI_ne (by decide), wI_ne (by decide), wI_ne (by decide), wI_ne (by decide), wI_ne (by decide), wI_y]
  have l36 : s1.1 36 = u2 (s.1 36) 0 A.L.n (nI A.txt.length) := by rw [← hs1, wI_ne (by decide), wI_ne (by decide), wI_ne (by decide), wI_ne (by decide), wI_ne (by decide), wI_ne (by decide), wI_eq, wI_ne (by decide), wI_ne (by decide)]
  have l37 : s1.1 37 = u2 (s.1 37) 0 A.L.n (nI q) := by rw [← hs1, wI_ne (by decide), wI_ne (by decide), wI_ne (by decide), wI_ne (by decide), wI_ne (by decide), wI_eq, wI_ne (by decide), wI_ne (by decide), wI_ne (by decide)]
  have l38 : s1.1 38 = u2 (s.1 38) 0 A.L.n (nI i) := by rw [← hs1, wI_ne (by decide), wI_ne (by decide), wI_ne (by decide), wI_ne (by decide), wI_eq, wI_ne (by decide), wI_ne (by decide), wI_ne (by decide), wI_ne (by decide)]
  have l39 : s1.1 39 = u2 (s.1 39) 0 A.L.n (nI g) := by rw [← hs1, wI_ne (by decide), wI_ne (by decide), wI_ne (by decide), wI_eq, wI_ne (by decide), wI_ne (by decide), wI_ne (by decide), wI_ne (by decide), wI_ne (by decide)]
  have l40 : s1.1 40 = u2 (s.1 40) 0 A.L.n (nI a) := by rw [← hs1, wI_ne (by decide), wI_ne (by decide), wI_eq, wI_ne (by decide), wI_ne (by decide), wI_ne (by decide), wI_ne (by decide), wI_ne (by decide), wI_ne (by decide)]
  have l41 : s1.1 41 = u2 (s.1 41) 0 A.L.n (nI A.now) := by rw [← hs1, wI_ne (by decide), wI_eq, wI_ne (by decide), wI_ne (by decide), wI_ne (by decide), wI_ne (by decide), wI_ne (by decide), wI_ne (by decide), wI_ne (by decide)]
  have l42 : s1.1 42 0 A.L.n = nI 0 := by rw [← hs1, wI_y]; rfl
  have l42' : ∀ l, l ≠ A.L.n → s1.1 42 0 l = s.1 42 0 l := by intro l hl; rw [← hs1, wI_k hl, wI_ne (by decide), wI_ne (by decide), wI_ne (by decide), wI_ne (by decide), wI_ne (by decide), wI_ne (by decide), wI_ne (by decide), wI_ne (by decide)]
  clear hs1
  obtain ⟨s2, e2, r1, r2, r3, r4, r5, r6, r7⟩ := M_post_lp (x2 := nI g) (i := i) h32 (by omega) hn (kk := fun s181 =>
        mm_pf s181 30 0 30 ((0 : Int32)) fun s275 =>
        mm_ld s275 35 0 12 (nI i) fun v290 =>
        mm_gf s275 30 0 5 fun v294 =>
        mm_cI (f_M_arrival v290 (nI g) (nI i) v294 s275) fun v297 s297 =>
        mm_st s297 43 0 16 (nI A.L.n) v297 fun s300 =>
        mm_cV (f_M_lookAt (nI A.L.n) s300) fun s304 =>
        mm_ri (nI A.L.n) s304) A.txt.length FU 0 s1 (by omega) (by unfold FU; omega) (by rw [z 30 (by decide) (by decide)]; exact hR.tln) (by rw [f1 57 (by decide) (by decide)]; exact hR.txb) l42
  generalize hs3 : mm_wI s2 30 0 30 (nI 0) = s3
  have f3 : ∀ F, F ≠ 30 → (F < 36 ∨ 42 < F) → F ≠ 46 → F ≠ 47 → F ≠ 49 → s3.1 F = s.1 F := by intro F h1 h2 h3 h4 h5; rw [← hs3, wI_ne h1, r6 F (by omega) h3 h4 h5, f1 F h1 h2]
  have f3' : s3.2 = s.2 := by rw [← hs3, wI_2, r7, f1']
  have y : ∀ k, k ≠ 30 → s3.1 30 0 k = s1.1 30 0 k := by intro k hk; rw [← hs3, wI_k hk, r6 30 (by decide) (by decide) (by decide) (by decide)]
  have y30 : s3.1 30 0 30 = nI 0 := by rw [← hs3, wI_y]
  have g36 : ∀ F, 36 ≤ F → F ≤ 41 → s3.1 F = s1.1 F := by intro F h1 h2; rw [← hs3, wI_ne (by omega), r6 F (by omega) (by omega) (by omega) (by omega)]
  have g42 : s3.1 42 0 A.L.n = sumF (txF A) A.txt.length := by rw [← hs3, wI_ne (by decide), r1]
  have g42' : ∀ l, l ≠ A.L.n → s3.1 42 0 l = s.1 42 0 l := by intro l hl; rw [← hs3, wI_ne (by decide), r2 l hl, l42' l hl]
  have hT3 : TabM s3 (A.S.held i) (A.T (A.S.held i)) := by
    have hh := hR.tab (A.S.held i) (by omega)
    exact ⟨by rw [f3 34 (by decide) (by decide) (by decide) (by decide) (by decide)]; exact hh.cnt, by rw [f3 31 (by decide) (by decide) (by decide) (by decide) (by decide), f3 32 (by decide) (by decide) (by decide) (by decide) (by decide), f3 33 (by decide) (by decide) (by decide) (by decide) (by decide)]; exact hh.row⟩
  obtain ⟨s4, e4, f4⟩ := M_arrival (hW.tab (A.S.held i) (by omega)) (by omega) (st := i) (to := g) (m := A.now) (by omega) hg (by omega) hT3
  rw [if_pos hi] at e4
  refine ⟨mm_wI s4 43 0 A.L.n (arI (cmK (A.T (A.S.held i)) i A.now g)), ?_, ?_, ?_, ?_⟩
  · refine e2.trans ?_
    show (mm_pf s2 30 0 30 (nI 0) fun s275 => _) = _
    rw [pf_ok, hs3, ld_ok (by omega) (by omega), f3 35 (by decide) (by decide) (by decide) (by decide) (by decide), hR.sto.hel i (by omega), gf_ok, y 5 (by decide), z 5 (by decide) (by decide), hR.clk, e4, cI_ok, st_ok (by omega) (by omega)]
  · rw [wI_ne (by decide), (f4 30 (by decide)).1, y 31 (by decide)]; exact z31
  · have k46 : ∀ i' k, i' < 12 → k < 64 → s3.1 46 0 (64 * i' + k) = if i' = i ∧ 4 * A.L.n ≤ k ∧ k < 4 * A.L.n + pc A.txt.length then nI 1 else s.1 46 0 (64 * i' + k) := by
      intro i' k h1 h2
      rw [← hs3, wI_ne (by decide), r3, f1 46 (by decide) (by decide)]
      by_cases e : i' = i ∧ 4 * A.L.n ≤ k ∧ k < 4 * A.L.n + pc A.txt.length
      · rw [if_pos e, if_pos (by omega)]
      · rw [if_neg e, if_neg (by have : pc A.txt.length ≤ 4 := by unfold pc; omega
                                 omega)]
    have k47 : ∀ i' k, i' < 12 → k < 64 → s3.1 47 0 (64 * i' + k) = if i' = i ∧ 4 * A.L.n ≤ k ∧ k < 4 * A.L.n + pc A.txt.length then nI 0 else s.1 47 0 (64 * i' + k) := by
      intro i' k h1 h2
      rw [← hs3, wI_ne (by decide), r4, f1 47 (by decide) (by decide)]
      by_cases e : i' = i ∧ 4 * A.L.n ≤ k ∧ k < 4 * A.L.n + pc A.txt.length
      · rw [if_pos e, if_pos (by omega)]
      · rw [if_neg e, if_neg (by have : pc A.txt.length ≤ 4 := by unfold pc; omega
                                 omega)]
    have k49 : ∀ i' l j, i' < 12 → l < 16 → j < 32 → s3.1 49 0 (512 * i' + 32 * l + j) = if i' = i ∧ l = A.L.n ∧ j < A.txt.length then nI (txF A j) else s.1 49 0 (512 * i' + 32 * l + j) := by
      intro i' l j h1 h2 h3
      rw [← hs3, wI_ne (by decide), r5, f1 49 (by decide) (by decide)]
      by_cases e : i' = i ∧ l = A.L.n ∧ j < A.txt.length
      · rw [if_pos e, if_pos (by omega)]; congr 2; omega
      · rw [if_neg e, if_neg (by omega)]
    have q4 : ∀ F, F ≠ 58 → F ≠ 59 → s4.1 F = s3.1 F := fun F h1 h2 => (f4 F ⟨h1, h2⟩).1
    have w43 : ∀ F, F ≠ 43 → F ≠ 58 → F ≠ 59 → (mm_wI s4 43 0 A.L.n (arI (cmK (A.T (A.S.held i)) i A.now g))).1 F = s3.1 F := fun F h1 h2 h3 => (wI_ne h1).trans (q4 F h2 h3)
    have hws := hW.ws
    refine ⟨?_, ?_, ?_, fun t ht => ?_, ?_, ?_, ?_, ?_⟩
    · rw [w43 30 (by decide) (by decide) (by decide), y 5 (by decide), z 5 (by decide) (by decide)]; exact hR.clk
    · rw [w43 30 (by decide) (by decide) (by decide), y 4 (by decide), z 4 (by decide) (by decide)]; exact hR.pub
    · rw [w43 30 (by decide) (by decide) (by decide)]; exact y30
    · have hh := hR.tab t ht
      exact ⟨by rw [w43 34 (by decide) (by decide) (by decide), f3 34 (by decide) (by decide) (by decide) (by decide) (by decide)]; exact hh.cnt, by rw [w43 31 (by decide) (by decide) (by decide), w43 32 (by decide) (by decide) (by decide), w43 33 (by decide) (by decide) (by decide), f3 31 (by decide) (by decide) (by decide) (by decide) (by decide), f3 32 (by decide) (by decide) (by decide) (by decide) (by decide), f3 33 (by decide) (by decide) (by decide) (by decide) (by decide)]; exact hh.row⟩
    · refine ⟨?_, fun i' k h1 h2 => ?_, fun i' k h1 h2 h3 => ?_, fun i' k h1 h2 => ?_, fun i' l j h1 h2 h3 h4 => ?_, ?_, ?_, ?_, fun i' k => ?_, fun i' k => ?_, fun i' k h => ?_, fun l => ?_⟩
      · rw [w43 35 (by decide) (by decide) (by decide), f3 35 (by decide) (by decide) (by decide) (by decide) (by decide)]; exact hR.sto.hel
      · rw [w43 46 (by decide) (by decide) (by decide), k46 i' k h1 h2]
        show _ = bI (if i' = i ∧ 4 * A.L.n ≤ k ∧ k < 4 * A.L.n + pc A.txt.length then true else A.S.cp i' k)
        split
        · rfl
        · exact hR.sto.cop i' k h1 h2
      · rw [w43 47 (by decide) (by decide) (by decide), k47 i' k h1 h2]
        have h3' : (if i' = i ∧ 4 * A.L.n ≤ k ∧ k < 4 * A.L.n + pc A.txt.length then true else A.S.vb i' k) = true := h3
        show _ = nI (if i' = i ∧ 4 * A.L.n ≤ k ∧ k < 4 * A.L.n + pc A.txt.length then 0 else A.S.hp i' k)
        by_cases e : i' = i ∧ 4 * A.L.n ≤ k ∧ k < 4 * A.L.n + pc A.txt.length
        · rw [if_pos e, if_pos e]
        · rw [if_neg e] at h3' ⊢; rw [if_neg e]; exact hR.sto.hop i' k h1 h2 h3'
      · rw [w43 48 (by decide) (by decide) (by decide), f3 48 (by decide) (by decide) (by decide) (by decide) (by decide), hR.sto.new i' k h1 h2]
        show _ = nI (if i' = i ∧ 4 * A.L.n ≤ k ∧ k < 4 * A.L.n + pc A.txt.length then 0 else A.S.nw i' k)
        split
        · rw [hws.nwn i' k (by omega)]
        · rfl
      · have h3' : j < u1 A.L.sz A.L.n A.txt.length l := h3
        have h4' : (if i' = i ∧ 4 * A.L.n ≤ 4 * l + j / 8 ∧ 4 * l + j / 8 < 4 * A.L.n + pc A.txt.length then true else A.S.vb i' (4 * l + j / 8)) = true := h4
        have hj32 : j < 32 := by
          by_cases e : l = A.L.n
          · rw [e, u1_at] at h3'; omega
          · rw [u1_ne e] at h3'; have := hW.wk.wl.s32 l; omega
        rw [w43 49 (by decide) (by decide) (by decide), k49 i' l j h1 h2 hj32]
        show _ = nI (if i' = i ∧ l = A.L.n ∧ j / 8 < pc A.txt.length then txF A j else A.S.bt i' l j)
        by_cases e : i' = i ∧ l = A.L.n
        · have h5 : j < A.txt.length := by rw [e.2, u1_at] at h3'; exact h3'
          rw [if_pos ⟨e.1, e.2, h5⟩, if_pos ⟨e.1, e.2, by unfold pc; omega⟩]
        · rw [if_neg (fun h => e ⟨h.1, h.2.1⟩), if_neg (fun h => e ⟨h.1, h.2.1⟩)]
          have h6 : ¬ (i' = i ∧ 4 * A.L.n ≤ 4 * l + j / 8 ∧ 4 * l + j / 8 < 4 * A.L.n + pc A.txt.length) := by
            intro h
            have : pc A.txt.length ≤ 4 := by unfold pc; omega
            exact e ⟨h.1, by omega⟩
          rw [if_neg h6] at h4'
          have h7 := hws.vbn i' _ h4'
          have h8 : (4 * l + j / 8) / 4 = l := by omega
          rw [h8] at h7
          rw [u1_ne (by omega)] at h3'
          exact hR.sto.byt i' l j h1 h2 h3' h4'
      · rw [w43 50 (by decide) (by decide) (by decide), f3 50 (by decide) (by decide) (by decide) (by decide) (by decide)]; exact hR.sto.kno
      · rw [w43 51 (by decide) (by decide) (by decide), f3 51 (by decide) (by decide) (by decide) (by decide) (by decide)]; exact hR.sto.exl
      · rw [w43 52 (by decide) (by decide) (by decide), f3 52 (by decide) (by decide) (by decide) (by decide) (by decide)]; exact hR.sto.ref
      · show (if i' = i ∧ 4 * A.L.n ≤ k ∧ k < 4 * A.L.n + pc A.txt.length then 0 else A.S.hp i' k) < _
        split
        · omega
        · exact hR.sto.hlt i' k
      · show (if i' = i ∧ 4 * A.L.n ≤ k ∧ k < 4 * A.L.n + pc A.txt.length then 0 else A.S.nw i' k) < _
        split
        · omega
        · exact hR.sto.nlt i' k
      · have h' : (if i' = i ∧ 4 * A.L.n ≤ k ∧ k < 4 * A.L.n + pc A.txt.length then true else A.S.cp i' k) = true := h
        show (if i' = i ∧ 4 * A.L.n ≤ k ∧ k < 4 * A.L.n + pc A.txt.length then true else A.S.vb i' k) = true
        by_cases e : i' = i ∧ 4 * A.L.n ≤ k ∧ k < 4 * A.L.n + pc A.txt.length
        · rw [if_pos e]
        · rw [if_neg e] at h' ⊢; exact hR.sto.vcp i' k h'
      · show u1 A.L.sz A.L.n A.txt.length l ≤ 32
        by_cases e : l = A.L.n
        · rw [e, u1_at]; exact h32
        · rw [u1_ne e]; exact hW.wk.wl.s32 l
    · have key : ∀ F, 36 ≤ F → F ≤ 41 → (mm_wI s4 43 0 A.L.n (arI (cmK (A.T (A.S.held i)) i A.now g))).1 F = s1.1 F := fun F h1 h2 => (w43 F (by omega) (by omega) (by omega)).trans (g36 F h1 h2)
      refine ⟨?_, fun l hl => at_last (P := fun l v => (mm_wI s4 43 0 A.L.n (arI (cmK (A.T (A.S.held i)) i A.now g))).1 36 0 l = nI v) ?_ (fun l hl => ?_) hl, fun l hl => at_last (P := fun l v => (mm_wI s4 43 0 A.L.n (arI (cmK (A.T (A.S.held i)) i A.now g))).1 37 0 l = nI v) ?_ (fun l hl => ?_) hl, fun l hl => at_last (P := fun l v => (mm_wI s4 43 0 A.L.n (arI (cmK (A.T (A.S.held i)) i A.now g))).1 38 0 l = nI v) ?_ (fun l hl => ?_) hl, fun l hl => at_last (P := fun l v => (mm_wI s4 43 0 A.L.n (arI (cmK (A.T (A.S.held i)) i A.now g))).1 39 0 l = nI v) ?_ (fun l hl => ?_) hl, fun l hl => at_last (P := fun l v => (mm_wI s4 43 0 A.L.n (arI (cmK (A.T (A.S.held i)) i A.now g))).1 40 0 l = nI v) ?_ (fun l hl => ?_) hl, fun l hl => at_last (P := fun l v => (mm_wI s4 43 0 A.L.n (arI (cmK (A.T (A.S.held i)) i A.now g))).1 41 0 l = nI v) ?_ (fun l hl => ?_) hl, fun l hl => at_last (P := fun l v => (mm_wI s4 43 0 A.L.n (arI (cmK (A.T (A.S.held i)) i A.now g))).1 42 0 l = v) ?_ (fun l hl => ?_) hl, fun l hl => at_last (P := fun l v => (mm_wI s4 43 0 A.L.n (arI (cmK (A.T (A.S.held i)) i A.now g))).1 43 0 l = v) wI_y (fun l hl => ?_) hl, ?_⟩
      · rw [w43 30 (by decide) (by decide) (by decide), y 7 (by decide)]; exact z7
      · rw [key 36 (by decide) (by decide), l36, u2_at]
      · rw [key 36 (by decide) (by decide), l36, u2_ne (by omega)]; exact hR.ltr.sz l hl
      · rw [key 37 (by decide) (by decide), l37, u2_at]
      · rw [key 37 (by decide) (by decide), l37, u2_ne (by omega)]; exact hR.ltr.srt l hl
      · rw [key 38 (by decide) (by decide), l38, u2_at]
      · rw [key 38 (by decide) (by decide), l38, u2_ne (by omega)]; exact hR.ltr.org l hl
      · rw [key 39 (by decide) (by decide), l39, u2_at]
      · rw [key 39 (by decide) (by decide), l39, u2_ne (by omega)]; exact hR.ltr.gl l hl
      · rw [key 40 (by decide) (by decide), l40, u2_at]
      · rw [key 40 (by decide) (by decide), l40, u2_ne (by omega)]; exact hR.ltr.ad l hl
      · rw [key 41 (by decide) (by decide), l41, u2_at]
      · rw [key 41 (by decide) (by decide), l41, u2_ne (by omega)]; exact hR.ltr.ps l hl
      · rw [w43 42 (by decide) (by decide) (by decide)]; exact g42
      · rw [w43 42 (by decide) (by decide) (by decide), g42' l (by omega)]; exact hR.ltr.sm l hl
      · rw [wI_n (by omega), q4 43 (by decide) (by decide), f3 43 (by decide) (by decide) (by decide) (by decide) (by decide)]; exact hR.ltr.pr l hl
      · rw [w43 44 (by decide) (by decide) (by decide), f3 44 (by decide) (by decide) (by decide) (by decide) (by decide)]; exact hR.ltr.ex
    · refine ⟨fun l j h1 h2 h3 => ?_, ?_, ?_, ?_, ?_⟩
      · have hl' := hW.wk.dln l h3
        have h2' : j < u1 A.L.sz A.L.n A.txt.length l := h2
        rw [u1_ne (by omega)] at h2'
        rw [w43 45 (by decide) (by decide) (by decide), f3 45 (by decide) (by decide) (by decide) (by decide) (by decide)]; exact hR.box.dlv l j h1 h2' h3
      · rw [w43 53 (by decide) (by decide) (by decide), f3 53 (by decide) (by decide) (by decide) (by decide) (by decide)]; exact hR.box.quo
      · rw [w43 54 (by decide) (by decide) (by decide), f3 54 (by decide) (by decide) (by decide) (by decide) (by decide)]; exact hR.box.cnt
      · rw [w43 55 (by decide) (by decide) (by decide), f3 55 (by decide) (by decide) (by decide) (by decide) (by decide)]; exact hR.box.lie
      · rw [w43 56 (by decide) (by decide) (by decide), f3 56 (by decide) (by decide) (by decide) (by decide) (by decide)]; exact hR.box.grp
    · intro j b hb
      have hb' : ([] : List Nat)[j]? = some b := hb
      simp at hb'
  · refine FrN.tr (b := s3) (fun F hF => ⟨f3 F (by omega) (by omega) (by omega) (by omega) (by omega), by rw [f3']⟩) ((FrN.as_ f4).tr (FrN.wI (by decide)))
theorem call_post (hX : RX s A) (hW : WF A c) (hc6 : c ≤ 600) : Agr (f_X_post x1 x2 x3 x4) (f_M_post x1 x2 x3 x4) 3 1 2 s A c := by
  have h32 := hW.t32
  have h16 := hW.wk.wl.n16
  by_cases hb : (((inR 0 8 x1 && inR 0 8 x2) && inR 0 5 x3) && inR 0 3 x4) = false ∨ A.txt.length = 0
  · exact Agr.no hX hW (e := 1) (by decide) (by decide) (X_post_bad hX h32 hb) fun t ht => ⟨_, _, M_post_bad ht h32 hb, wI_y, ht.thr, FrN.wI (by decide)⟩
  · have h0 : A.txt.length ≠ 0 := fun h => hb (.inr h)
    have hg : (((inR 0 8 x1 && inR 0 8 x2) && inR 0 5 x3) && inR 0 3 x4) = true := by
      cases h : (((inR 0 8 x1 && inR 0 8 x2) && inR 0 5 x3) && inR 0 3 x4) with
      | true => rfl
      | false => exact absurd (.inl h) hb
    simp only [Bool.and_eq_true] at hg
    obtain ⟨⟨⟨h1, h2⟩, h3⟩, h4⟩ := hg
    obtain ⟨i, _, hi, rfl⟩ := inR_get (by decide) (by decide) h1
    obtain ⟨g, _, hg, rfl⟩ := inR_get (by decide) (by decide) h2
    obtain ⟨a, _, ha, rfl⟩ := inR_get (by decide) (by decide) h3
    obtain ⟨q, _, hq, rfl⟩ := inR_get (by decide) (by decide) h4
    by_cases hc : A.L.n = 16 ∨ capa i < cN (A.S.cp i) 64 + pc A.txt.length
    · exact Agr.no hX hW (e := 2) (by decide) (by decide) (X_post_no hX hW hi hg ha hq h0 hc) fun t ht => ⟨_, _, M_post_no ht hW hi hg ha hq h0 hc, wI_y, ht.thr, FrN.wI (by decide)⟩
    · have hn : A.L.n < 16 := by omega
      have hr : cN (A.S.cp i) 64 + pc A.txt.length ≤ capa i := by omega
      have hW1 := post_WK hW hi hg ha hq hn (by omega) hr
      have hl1 : A.L.n < (oPst A i g a q).L.n := Nat.lt_succ_self _
      have hlk := look_ok hW1.wk hW1.ws hl1
      have hW2 : WF (mkAb A.now A.T A.pubs (look (oPst A i g a q).L A.L.n ((oPst A i g a q).S, (oPst A i g a q).B)).1 (oPst A i g a q).L (look (oPst A i g a q).L A.L.n ((oPst A i g a q).S, (oPst A i g a q).B)).2 []) (c + 1) := by
        refine ⟨by have := hW.now; show A.now ≤ _; omega, hW.pub, hW.tab, fun k => ?_, hlk.1, hlk.2.mono (by omega), hW1.ps, Nat.zero_le _⟩
        show (look (oPst A i g a q).L A.L.n ((oPst A i g a q).S, (oPst A i g a q).B)).1.held k ≤ _
        rw [look_held]; exact hW.hel k
      obtain ⟨s1, e1, g1, f1⟩ := X_post_yes hX hW hc6 hi hg ha hq h0 hn hr
      have hM : ∀ t, RM t A → ∃ t', f_M_post (nI i) (nI g) (nI a) (nI q) t = mm_ri (nI A.L.n) t' ∧ t'.1 30 0 31 = nI 0 ∧ RM t' (mkAb A.now A.T A.pubs (look (oPst A i g a q).L A.L.n ((oPst A i g a q).S, (oPst A i g a q).B)).1 (oPst A i g a q).L (look (oPst A i g a q).L A.L.n ((oPst A i g a q).S, (oPst A i g a q).B)).2 []) ∧ FrN t t' := by
        intro t ht
        obtain ⟨t1, e2, z1, g2, f2⟩ := M_post_yes ht hW hc6 hi hg ha hq h0 hn hr
        obtain ⟨t2, e3, h3, h4, f3⟩ := M_lookAt g2.sto g2.ltr g2.box hW1.wk.wl hW1.wk.wb hl1 (lk_dl hW1.wk hW1.ws hl1)
        exact ⟨t2, by rw [e2, e3, cV_ok], by rw [(f3 30 (by decide)).1]; exact z1, g2.lk f3 h3 h4, f2.tr (FrN.ks f3)⟩
      by_cases e : i = g
      · obtain ⟨s2, e3, h3, h4, f3⟩ := X_lookAt g1.sto g1.ltr g1.box hW1.wk.wl hW1.wk.wb hl1 (lk_ok hW1.wk hW1.ws hl1)
        exact Agr.yes (by decide) hW2 (by rw [e1, if_neg (by rw [e]; exact fun h => h rfl), e3, cV_ok]) (g1.lk f3 h3 h4) (f1.tr (FrC.ls f3)) hM
      · have hno : look (oPst A i g a q).L A.L.n ((oPst A i g a q).S, (oPst A i g a q).B) = ((oPst A i g a q).S, (oPst A i g a q).B) := by
          unfold look
          rw [if_neg]
          intro hcm
          have h5 := hcm 0 (by show 0 < pc (u1 A.L.sz A.L.n A.txt.length A.L.n); rw [u1_at]; unfold pc; omega)
          have h6 : (if u1 A.L.gl A.L.n g A.L.n = i ∧ 4 * A.L.n ≤ 4 * A.L.n + 0 ∧ 4 * A.L.n + 0 < 4 * A.L.n + pc A.txt.length then true else A.S.cp (u1 A.L.gl A.L.n g A.L.n) (4 * A.L.n + 0)) = true := h5
          rw [u1_at, if_neg (fun h => e h.1.symm)] at h6
          have := (hW.ws.cpn _ _ h6).1
          omega
        rw [hno] at hW2 hM
        exact Agr.yes (by decide) hW2 (by rw [e1, if_pos (by rw [qI_inj (by omega) (by omega)]; exact e)]) g1 f1 hM
end

section
variable {s : Mem} {A : Ab} {c : Nat} {x1 x2 x3 x4 : Int32}
theorem X_post_bad (hX : RX s A) (h32 : A.txt.length ≤ 32) (hg : (((inR 0 8 x1 && inR 0 8 x2) && inR 0 5 x3) && inR 0 3 x4) = false ∨ A.txt.length = 0) : f_X_post x1 x2 x3 x4 s = mm_th 1 s := by
  unfold f_X_post
  simp only [mm_jn]
  rw [X_isKiosk, cI_ok]
  cases h1 : inR 0 8 x1 with
  | false => rw [if_pos (by decide), show (0 : Int32) = bI false from rfl, X_demand]; rfl
  | true =>
    rw [if_neg (by decide), X_isKiosk, cI_ok]
    cases h2 : inR 0 8 x2 with
    | false => rw [if_pos (by decide), show (0 : Int32) = bI false from rfl, X_demand]; rfl
    | true =>
      rw [if_neg (by decide), show (5 : Int32) = nI 5 from rfl, X_isWithin, cI_ok]
      cases h3 : inR 0 5 x3 with
      | false => rw [if_pos (by decide), show (0 : Int32) = bI false from rfl, X_demand]; rfl
      | true =>
        rw [if_neg (by decide), show (3 : Int32) = nI 3 from rfl, X_isWithin, cI_ok]
        cases h4 : inR 0 3 x4 with
        | false => rw [if_pos (by decide), show (0 : Int32) = bI false from rfl, X_demand]; rfl
        | true =>
          rw [h1, h2, h3, h4] at hg
          have h0 : A.txt.length = 0 := hg.resolve_left (by decide)
          rw [if_neg (by decide), show (1 : Int32) = bI true from rfl, X_demand, if_pos rfl, tV_ok, gf_ok, hX.tln, h0, if_pos (by decide), show (0 : Int32) = bI false from rfl, X_demand]; rfl
theorem X_post_go (hX : RX s A) (h32 : A.txt.length ≤ 32) {i g a q : Nat} (hi : i < 8) (hg : g < 8) (ha : a < 5) (hq : q < 3) (h0 : A.txt.length ≠ 0) :
    f_X_post (nI i) (nI g) (nI a) (nI q) s = (mm_gf s 0 0 7 fun v55 =>
      if v55 = ((16 : Int32)) then (mm_th 2 s) else (
        mm_al 12 (nI i) fun j68 =>
        mm_cI (f_S_room j68 s) fun v69 s69 =>
        mm_gf s69 0 0 9 fun v73 =>
        mm_cI (f_X_piecesIn v73 s69) fun v76 s76 =>
        if v76 ≤ v69 then (
          mm_gf s76 0 0 7 fun v91 =>
          mm_gf s76 0 0 7 fun v98 =>
          mm_pf s76 0 0 7 (v98 + ((1 : Int32))) fun s103 =>
          mm_al 16 v91 fun j112 =>
          mm_pf s103 19 j112 0 (nI i) fun s118 =>
          mm_pf s118 19 j112 1 (nI g) fun s124 =>
          mm_pf s124 19 j112 2 (nI a) fun s130 =>
          mm_pf s130 19 j112 3 (nI q) fun s137 =>
          mm_gf s137 0 0 0 fun v143 =>
          mm_pf s137 19 j112 4 v143 fun s146 =>
          mm_al 12 (nI i) fun j157 =>
          mm_gf s146 7 j157 6 fun v158 =>
          mm_gf s146 0 0 0 fun v164 =>
          mm_cI (f_X_arrival v158 (nI i) (nI g) v164 s146) fun v167 s167 =>
          mm_pf s167 19 j112 5 v167 fun s170 =>
          mm_gf s170 0 0 9 fun v176 =>
          mm_pf s170 19 j112 6 v176 fun s179 =>
          mm_gf s179 0 0 9 fun v189 =>
          mm_cI (f_X_sumOf_21 v189 s179) fun v192 s192 =>
          mm_pf s192 19 j112 7 v192 fun s195 =>
          mm_al 12 (nI i) fun j204 =>
          mm_cV (f_X_handOverText j204 v91 s195) fun s207 =>
          if ¬ nI i = nI g then (mm_ri v91 s207) else (mm_cV (f_X_lookAt v91 s207) fun s218 => mm_ri v91 s218)
        ) else (mm_th 2 s76))) := by
  have t1 : inR 0 8 (nI i) = true := by rw [inR_nI (by decide) (by decide) (by omega)]; exact decide_eq_true ⟨Nat.zero_le _, hi⟩
  have t2 : inR 0 8 (nI g) = true := by rw [inR_nI (by decide) (by decide) (by omega)]; exact decide_eq_true ⟨Nat.zero_le _, hg⟩
  have t3 : inR 0 5 (nI a) = true := by rw [inR_nI (by decide) (by decide) (by omega)]; exact decide_eq_true ⟨Nat.zero_le _, ha⟩
  have t4 : inR 0 3 (nI q) = true := by rw [inR_nI (by decide) (by decide) (by omega)]; exact decide_eq_true ⟨Nat.zero_le _, hq⟩
  unfold f_X_post
  simp only [mm_jn]
  rw [X_isKiosk, cI_ok, t1, if_neg (by decide), X_isKiosk, cI_ok, t2, if_neg (by decide), show (5 : Int32) = nI 5 from rfl, X_isWithin, cI_ok, t3, if_neg (by decide), show (3 : Int32) = nI 3 from rfl, X_isWithin, cI_ok, t4, if_neg (by decide), show f_X_demand 1 s = f_X_demand (bI true) s from rfl, X_demand, if_pos rfl, tV_ok, gf_ok, hX.tln, if_neg (by rw [show (0 : Int32) = nI 0 from rfl, qI_le (by omega) (by omega)]; omega), show f_X_demand 1 s = f_X_demand (bI true) s from rfl, X_demand, if_pos rfl, tV_ok]
theorem X_post_no (hX : RX s A) (hW : WF A c) {i g a q : Nat} (hi : i < 8) (hg : g < 8) (ha : a < 5) (hq : q < 3) (h0 : A.txt.length ≠ 0) (hc : A.L.n = 16 ∨ capa i < cN (A.S.cp i) 64 + pc A.txt.length) : f_X_post (nI i) (nI g) (nI a) (nI q) s = mm_th 2 s := by
  have h32 := hW.t32
  have hn := hW.wk.wl.n16
  have hcap := hW.ws.cap i (by omega)
  have hc24 : capa i ≤ 24 := by unfold capa; split <;> omega
  rw [X_post_go hX h32 hi hg ha hq h0, gf_ok, hX.ltr.n]
  by_cases e : A.L.n = 16
  · rw [e, if_pos (by decide)]
  · rw [if_neg (by rw [show (16 : Int32) = nI 16 from rfl, qI_inj (by omega) (by omega)]; exact e), al_ok (by omega) (by omega), S_room hX.sto (by omega) hcap, cI_ok, gf_ok, hX.tln, X_piecesIn (by omega), cI_ok, if_neg (by rw [qI_le (by unfold pc; omega) (by omega)]; have := hc.resolve_left e; omega)]
theorem X_post_yes (hX : RX s A) (hW : WF A c) (hc6 : c ≤ 600) {i g a q : Nat} (hi : i < 8) (hg : g < 8) (ha : a < 5) (hq : q < 3) (h0 : A.txt.length ≠ 0) (hn : A.L.n < 16) (hr : cN (A.S.cp i) 64 + pc A.txt.length ≤ capa i) :
    ∃ s', f_X_post (nI i) (nI g) (nI a) (nI q) s = (if ¬ nI i = nI g then (mm_ri (nI A.L.n) s') else (mm_cV (f_X_lookAt (nI A.L.n) s') fun s218 => mm_ri (nI A.L.n) s218)) ∧ RX s' (oPst A i g a q) ∧ FrC s s' := by
  have h32 := hW.t32
  have hcap := hW.ws.cap i (by omega)
  have hc24 : capa i ≤ 24 := by unfold capa; split <;> omega
  have hnow := hW.now
  have hp6 := hW.pub
  have hhl := hW.hel i
  rw [X_post_go hX h32 hi hg ha hq h0, gf_ok, hX.ltr.n, if_neg (by rw [show (16 : Int32) = nI 16 from rfl, qI_inj (by omega) (by omega)]; omega), al_ok (by omega) (by omega), S_room hX.sto (by omega) hcap, cI_ok, gf_ok, hX.tln, X_piecesIn (by omega), cI_ok, if_pos (by rw [qI_le (by unfold pc; omega) (by omega)]; omega), gf_ok, hX.ltr.n, gf_ok, hX.ltr.n, pf_ok, show nI A.L.n + 1 = nI (A.L.n + 1) by simp only [qI_lit, qI_add], al_ok (by omega) (by omega), pf_ok, pf_ok, pf_ok, pf_ok, gf_ok, wI_ne (by decide), wI_ne (by decide), wI_ne (by decide), wI_ne (by decide), wI_k (by decide), hX.clk, pf_ok, al_ok (by omega) (by omega), gf_ok, wI_ne (by decide), wI_ne (by decide), wI_ne (by decide), wI_ne (by decide), wI_ne (by decide), wI_ne (by decide), hX.sto.hel i (by omega), gf_ok, wI_ne (by decide), wI_ne (by decide), wI_ne (by decide), wI_ne (by decide), wI_ne (by decide), wI_k (by decide), hX.clk]
  generalize hs6 : mm_wI (mm_wI (mm_wI (mm_wI (mm_wI (mm_wI s 0 0 7 (nI (A.L.n + 1))) 19 A.L.n 0 (nI i)) 19 A.L.n 1 (nI g)) 19 A.L.n 2 (nI a)) 19 A.L.n 3 (nI q)) 19 A.L.n 4 (nI A.now) = s6
  have f6 : ∀ F, F ≠ 0 → F ≠ 19 → s6.1 F = s.1 F := by intro F h1 h2; rw [← hs6, wI_ne h2, wI_ne h2, wI_ne h2, wI_ne h2, wI_ne h2, wI_ne h1]
  have f6' : s6.2 = s.2 := by rw [← hs6]; rfl
  have z6 : ∀ k, k ≠ 7 → s6.1 0 0 k = s.1 0 0 k := by intro k h1; rw [← hs6, wI_ne (by decide), wI_ne (by decide), wI_ne (by decide), wI_ne (by decide), wI_ne (by decide), wI_k h1]
  have z7 : s6.1 0 0 7 = nI (A.L.n + 1) := by rw [← hs6, wI_ne (by decide), wI_ne (by decide), wI_ne (by decide), wI_ne (by decide), wI_ne (by decide), wI_y]
  have l6 : ∀ l k, l ≠ A.L.n → s6.1 19 l k = s.1 19 l k := by intro l k h1; rw [← hs6, wI_n (by omega), wI_n (by omega), wI_n (by omega), wI_n (by omega), wI_n (by omega), wI_n (by omega)]
  have l6' : ∀ k, 4 < k → s6.1 19 A.L.n k = s.1 19 A.L.n k := by intro k h1; rw [← hs6, wI_k (by omega), wI_k (by omega), wI_k (by omega), wI_k (by omega), wI_k (by omega), wI_ne (by decide)]
  have v0 : s6.1 19 A.L.n 0 = nI i := by rw [← hs6, wI_k (by decide), wI_k (by decide), wI_k (by decide), wI_k (by decide), wI_y]
  have v1 : s6.1 19 A.L.n 1 = nI g := by rw [← hs6, wI_k (by decide), wI_k (by decide), wI_k (by decide), wI_y]
  have v2 : s6.1 19 A.L.n 2 = nI a := by rw [← hs6, wI_k (by decide), wI_k (by decide), wI_y]
  have v3 : s6.1 19 A.L.n 3 = nI q := by rw [← hs6, wI_k (by decide), wI_y]
  have v4 : s6.1 19 A.L.n 4 = nI A.now := by rw [← hs6, wI_y]
  clear hs6
  obtain ⟨L, hL, hsr, hpm⟩ := hX.tab (A.S.held i) (by omega)
  have ok := hW.tab (A.S.held i) (by omega)
  have hL6 : TabC s6 (A.S.held i) L := hL.fr (f6 1 (by decide) (by decide)) (f6 2 (by decide) (by decide)) (f6 3 (by decide) (by decide)) (f6 4 (by decide) (by decide))
  obtain ⟨s7, e7, r7⟩ := X_arrival hL6 hsr hpm ok (k := i) (m := A.now) (g := g) (by omega) hi hg (by omega)
  have b7 : ∀ j, j < A.txt.length → bytI ((mm_wI (mm_wI s7 19 A.L.n 5 (arI (cmK (A.T (A.S.held i)) i A.now g))) 19 A.L.n 6 (nI A.txt.length)).2 21 0 (j / 8)) (j % 8) = nI (txF A j) := by
    intro j hj
    rw [wI_2, wI_2, r7.2.2, f6']; exact hX.txb j (by omega)
  have z79 : s7.1 0 0 9 = nI A.txt.length := by rw [r7.1 0 (by decide), z6 9 (by decide)]; exact hX.tln
  rw [e7, cI_ok, pf_ok, gf_ok, wI_ne (by decide), z79, pf_ok, gf_ok, wI_ne (by decide), wI_ne (by decide), z79, X_sumOf21 h32 b7, cI_ok, pf_ok, al_ok (by omega) (by omega)]
  generalize hs8 : mm_wI (mm_wI (mm_wI s7 19 A.L.n 5 (arI (cmK (A.T (A.S.held i)) i A.now g))) 19 A.L.n 6 (nI A.txt.length)) 19 A.L.n 7 (sumF (txF A) A.txt.length) = s8
  have f8 : ∀ F, F ≠ 0 → F ≠ 19 → (F < 23 ∨ 25 < F) → s8.1 F = s.1 F := by intro F h1 h2 h3; rw [← hs8, wI_ne h2, wI_ne h2, wI_ne h2, r7.1 F h3, f6 F h1 h2]
  have f8' : s8.2 = s.2 := by rw [← hs8, wI_2, wI_2, wI_2, r7.2.2, f6']
  have y6 : ∀ k, k ≠ 7 → s8.1 0 0 k = s.1 0 0 k := by intro k h1; rw [← hs8, wI_ne (by decide), wI_ne (by decide), wI_ne (by decide), r7.1 0 (by decide), z6 k h1]
  have y7 : s8.1 0 0 7 = nI (A.L.n + 1) := by rw [← hs8, wI_ne (by decide), wI_ne (by decide), wI_ne (by decide), r7.1 0 (by decide), z7]
  have m6 : ∀ l k, l ≠ A.L.n → s8.1 19 l k = s.1 19 l k := by intro l k h1; rw [← hs8, wI_n (by omega), wI_n (by omega), wI_n (by omega), r7.1 19 (by decide), l6 l k h1]
  have m8 : ∀ k, 7 < k → s8.1 19 A.L.n k = s.1 19 A.L.n k := by intro k h1; rw [← hs8, wI_k (by omega), wI_k (by omega), wI_k (by omega), r7.1 19 (by decide), l6' k (by omega)]
  have m4 : ∀ k, k < 5 → s8.1 19 A.L.n k = s6.1 19 A.L.n k := by intro k h1; rw [← hs8, wI_k (by omega), wI_k (by omega), wI_k (by omega), r7.1 19 (by decide)]
  have w5 : s8.1 19 A.L.n 5 = arI (cmK (A.T (A.S.held i)) i A.now g) := by rw [← hs8, wI_k (by decide), wI_k (by decide), wI_y]
  have w6 : s8.1 19 A.L.n 6 = nI A.txt.length := by rw [← hs8, wI_k (by decide), wI_y]
  have w7 : s8.1 19 A.L.n 7 = sumF (txF A) A.txt.length := by rw [← hs8, wI_y]
  clear hs8
  have hsz32 : ∀ l, u1 A.L.sz A.L.n A.txt.length l ≤ 32 := by
    intro l
    by_cases e : l = A.L.n
    · rw [e, u1_at]; exact h32
    · rw [u1_ne e]; exact hW.wk.wl.s32 l
  have hS8 : RS s8 (u1 A.L.sz A.L.n A.txt.length) A.S := by
    refine RS_sz (hX.sto.fr (f8 7 (by decide) (by decide) (by decide)) (f8 8 (by decide) (by decide) (by decide)) (f8 9 (by decide) (by decide) (by decide)) (by rw [f8']) (f8 11 (by decide) (by decide) (by decide))) h32 (fun i k hv => ?_)
    have := hW.ws.vbn i k hv; omega
  obtain ⟨s9, e9, h9, g1, g2, g3, g4, g5⟩ := X_hand (i := i) (l := A.L.n) hS8 (by omega) hn hsz32 (b := txF A) h32 (by rw [y6 9 (by decide)]; exact hX.tln) (fun k hk => by
    cases h : A.S.cp i k with
    | false => rfl
    | true => have := (hW.ws.cpn i k h).1; omega) (fun j hj => by rw [f8']; exact hX.txb j hj)
  rw [e9, cV_ok]
  have q19 : s9.1 19 = s8.1 19 := g1 19 (by decide) (by decide)
  have q0 : ∀ k, k ≠ 9 → s9.1 0 0 k = s8.1 0 0 k := fun k hk => g3 0 k (by omega)
  have fc : FrC s s9 := fun F hF => ⟨(g1 F (by omega) (by omega)).trans (f8 F (by omega) (by omega) (by omega)), (g2 F (by omega) (by omega)).trans (by rw [f8'])⟩
  refine ⟨s9, rfl, ⟨?_, ?_, g4, fun t ht => ?_, h9, ?_, ?_, fun j hj => ?_⟩, fc⟩
  · rw [q0 0 (by decide), y6 0 (by decide)]; exact hX.clk
  · rw [q0 3 (by decide), y6 3 (by decide)]; exact hX.pub
  · obtain ⟨L, hL, hr⟩ := hX.tab t ht
    exact ⟨L, hL.fr ((g1 1 (by decide) (by decide)).trans (f8 1 (by decide) (by decide) (by decide))) ((g1 2 (by decide) (by decide)).trans (f8 2 (by decide) (by decide) (by decide))) ((g1 3 (by decide) (by decide)).trans (f8 3 (by decide) (by decide) (by decide))) ((g1 4 (by decide) (by decide)).trans (f8 4 (by decide) (by decide) (by decide))), hr⟩
  · refine ⟨by rw [q0 7 (by decide)]; exact y7, ?_, ?_, ?_, ?_, ?_, ?_, ?_, ?_, fun l hl => ?_, fun l hl => ?_⟩
    · exact fun l hl => at_last (P := fun l v => s9.1 19 l 0 = nI v) (by rw [q19, m4 0 (by decide)]; exact v0) (fun l hl => by rw [q19, m6 l 0 (by omega)]; exact hX.ltr.org l hl) hl
    · exact fun l hl => at_last (P := fun l v => s9.1 19 l 1 = nI v) (by rw [q19, m4 1 (by decide)]; exact v1) (fun l hl => by rw [q19, m6 l 1 (by omega)]; exact hX.ltr.gl l hl) hl
    · exact fun l hl => at_last (P := fun l v => s9.1 19 l 2 = nI v) (by rw [q19, m4 2 (by decide)]; exact v2) (fun l hl => by rw [q19, m6 l 2 (by omega)]; exact hX.ltr.ad l hl) hl
    · exact fun l hl => at_last (P := fun l v => s9.1 19 l 3 = nI v) (by rw [q19, m4 3 (by decide)]; exact v3) (fun l hl => by rw [q19, m6 l 3 (by omega)]; exact hX.ltr.srt l hl) hl
    · exact fun l hl => at_last (P := fun l v => s9.1 19 l 4 = nI v) (by rw [q19, m4 4 (by decide)]; exact v4) (fun l hl => by rw [q19, m6 l 4 (by omega)]; exact hX.ltr.ps l hl) hl
    · exact fun l hl => at_last (P := fun l v => s9.1 19 l 5 = v) (by rw [q19]; exact w5) (fun l hl => by rw [q19, m6 l 5 (by omega)]; exact hX.ltr.pr l hl) hl
    · exact fun l hl => at_last (P := fun l v => s9.1 19 l 6 = nI v) (by rw [q19]; exact w6) (fun l hl => by rw [q19, m6 l 6 (by omega)]; exact hX.ltr.sz l hl) hl
    · exact fun l hl => at_last (P := fun l v => s9.1 19 l 7 = v) (by rw [q19]; exact w7) (fun l hl => by rw [q19, m6 l 7 (by omega)]; exact hX.ltr.sm l hl) hl
    · show s9.1 19 l 8 = bI (decide (l < A.L.n + 1 ∧ u1 A.L.ps A.L.n A.now l + 7200 ≤ A.now))
      by_cases e : l = A.L.n
      · rw [q19, e, m8 8 (by decide), hX.ltr.ov _ hn, u1_at, decide_eq_false (by omega), decide_eq_false (by omega)]
      · rw [q19, m6 l 8 e, hX.ltr.ov l hl, u1_ne e]
        congr 1
        exact decide_eq_decide.mpr (by omega)
    · by_cases e : l = A.L.n
      · rw [q19, e, m8 9 (by decide)]; exact hX.ltr.ex _ hn
      · rw [q19, m6 l 9 e]; exact hX.ltr.ex l hl
  · refine ⟨?_, ?_, ?_, ?_, ?_, fun l j g6 g7 g8 => ?_⟩
    · rw [g1 15 (by decide) (by decide), f8 15 (by decide) (by decide) (by decide)]; exact hX.box.grp
    · rw [g1 16 (by decide) (by decide), f8 16 (by decide) (by decide) (by decide)]; exact hX.box.cnt
    · intro b hb
      rw [g1 16 (by decide) (by decide), f8 16 (by decide) (by decide) (by decide), hX.box.byt b hb]
      show _ = nI (byS (u1 A.L.sz A.L.n A.txt.length) (A.B.lies b))
      congr 1
      unfold byS
      congr 1
      refine List.map_congr_left fun x hx => ?_
      rw [u1_ne]; have := (hW.wk.wb.mem b x hx).1; omega
    · rw [g1 16 (by decide) (by decide), f8 16 (by decide) (by decide) (by decide)]; exact hX.box.quo
    · rw [g1 17 (by decide) (by decide), f8 17 (by decide) (by decide) (by decide)]; exact hX.box.lie
    · have hl' := hW.wk.dln l g8
      have g7' : j < u1 A.L.sz A.L.n A.txt.length l := g7
      rw [u1_ne (by omega)] at g7'
      rw [g2 20 (by decide) (by decide), f8']; exact hX.box.dlv l j g6 g7' g8
  · have : j / 8 < 4 := by omega
    rw [g5 _ this]
    show bytI 0 (j % 8) = nI 0
    have : j % 8 < 8 := by omega
    generalize j % 8 = r at this
    match r, this with
    | 0, _ => decide
    | 1, _ => decide
    | 2, _ => decide
    | 3, _ => decide
    | 4, _ => decide
    | 5, _ => decide
    | 6, _ => decide
    | 7, _ => decide
end

-- the reference moves a piece
theorem M_mv80_lp {x2 x3 : Int32} {P Q : Nat} (hP : P < 768) (hQ : Q < 768) (hne : P ≠ Q) {kk : Mem → RR} : ∀ (m n y : Nat) (s : Mem), y + m = 8 → m < n →
    ∃ s', lp_M_move_80 x2 x3 (nI P) (nI Q) kk n (nI y) s = kk s' ∧ (∀ z, y ≤ z → z < 8 → s'.1 61 0 z = s.1 49 0 (8 * P + z) ∧ s'.1 49 0 (8 * Q + z) = s.1 49 0 (8 * P + z)) ∧ (∀ k, ¬ (8 * Q + y ≤ k ∧ k < 8 * Q + 8) → s'.1 49 0 k = s.1 49 0 k) ∧ (∀ k, ¬ (y ≤ k ∧ k < 8) → s'.1 61 0 k = s.1 61 0 k) ∧ (∀ F, F ≠ 49 → F ≠ 61 → s'.1 F = s.1 F) ∧ s'.2 = s.2 := by
  intro m
  induction m with
  | zero =>
    intro n y s hy hn
    obtain ⟨n, rfl⟩ : ∃ n', n = n' + 1 := ⟨n - 1, by omega⟩
    unfold lp_M_move_80
    rw [if_pos (by simp (disch := omega) only [qI_lit, qI_m1, qI_add, qI_mul, qI_le, qI_lt, qI_inj, qI_ne_m, m_ne_nI, m_lt_nI, m_le_nI, qI_lt_m, qI_le_m, qI_sub, qI_div, qI_rem, bI_0, bI_1]; omega)]
    exact ⟨s, rfl, fun z h1 h2 => by omega, fun _ _ => rfl, fun _ _ => rfl, fun _ _ _ => rfl, rfl⟩
  | succ m ih =>
    intro n y s hy hn
    obtain ⟨n, rfl⟩ : ∃ n', n = n' + 1 := ⟨n - 1, by omega⟩
    unfold lp_M_move_80
    have e1 : nI y + 1 = nI (y + 1) := by simp (disch := omega) only [qI_lit, qI_m1, qI_add, qI_mul, qI_le, qI_lt, qI_inj, qI_ne_m, m_ne_nI, m_lt_nI, m_le_nI, qI_lt_m, qI_le_m, qI_sub, qI_div, qI_rem, bI_0, bI_1]
    have eP : (8 : Int32) * nI P + nI y = nI (8 * P + y) := by simp only [qI_lit, qI_mul, qI_add]
    have eQ : (8 : Int32) * nI Q + nI y = nI (8 * Q + y) := by simp only [qI_lit, qI_mul, qI_add]
    rw [if_neg (by simp (disch := omega) only [qI_lit, qI_m1, qI_add, qI_mul, qI_le, qI_lt, qI_inj, qI_ne_m, m_ne_nI, m_lt_nI, m_le_nI, qI_lt_m, qI_le_m, qI_sub, qI_div, qI_rem, bI_0, bI_1]; omega), eP, eQ, ld_ok (by omega) (by omega), st_ok (by omega) (by omega), ld_ok (by omega) (by omega), wI_ne (by decide), st_ok (by omega) (by omega), e1]
    obtain ⟨s', e2, g1, g2, g3, g4, g5⟩ := ih n (y + 1) (mm_wI (mm_wI s 61 0 y (s.1 49 0 (8 * P + y))) 49 0 (8 * Q + y) (s.1 49 0 (8 * P + y))) (by omega) (by omega)
    have hw : ∀ z, z < 8 → (mm_wI (mm_wI s 61 0 y (s.1 49 0 (8 * P + y))) 49 0 (8 * Q + y) (s.1 49 0 (8 * P + y))).1 49 0 (8 * P + z) = s.1 49 0 (8 * P + z) := fun z hz => by rw [wI_n (by omega), wI_ne (by decide)]
    refine ⟨s', e2, fun z h1 h2 => ?_, fun k hk => ?_, fun k hk => ?_, fun F h1 h2 => ?_, g5⟩
    · by_cases e : z = y
      · rw [e]
        exact ⟨by rw [g3 y (by omega), wI_ne (by decide), wI_y], by rw [g2 _ (by omega), wI_y]⟩
      · obtain ⟨a1, a2⟩ := g1 z (by omega) h2
        rw [a1, a2, hw z h2]; exact ⟨rfl, rfl⟩
    · rw [g2 k (by omega), wI_n (by omega), wI_ne (by decide)]
    · rw [g3 k (by omega), wI_ne (by decide), wI_n (by omega)]
    · rw [g4 F h1 h2, wI_ne h1, wI_ne h2]
theorem QS_take {s s' : Mem} {sz : Nat → Nat} {S : Sto} (h : QS s sz S) {g r p t : Nat} (hg : g < 12) (hr : r < 12) (hne : g ≠ r) (hp : p < 64) (ht : t < 1000000) (hv : S.vb g p = true) (k46 : s'.1 46 = u2 (s.1 46) 0 (64 * r + p) (nI 1)) (k47 : s'.1 47 = u2 (s.1 47) 0 (64 * r + p) (nI t)) (k48 : s'.1 48 = u2 (s.1 48) 0 (64 * r + p) (nI t)) (k49 : ∀ z, z < 8 → s'.1 49 0 (8 * (64 * r + p) + z) = s.1 49 0 (8 * (64 * g + p) + z)) (k49' : ∀ k, ¬ (8 * (64 * r + p) ≤ k ∧ k < 8 * (64 * r + p) + 8) → s'.1 49 0 k = s.1 49 0 k) (k35 : s'.1 35 = s.1 35) (k50 : s'.1 50 = s.1 50) (k51 : s'.1 51 = s.1 51) (k52 : s'.1 52 = s.1 52) : QS s' sz (oTake S r p t (S.bt g (p / 4))) := by
  refine ⟨by rw [k35]; exact h.hel, fun i k hi hk => ?_, fun i k hi hk hvb => ?_, fun i k hi hk => ?_, fun i l j hi hl hj hvb => ?_, by rw [k50]; exact h.kno, by rw [k51]; exact h.exl, by rw [k52]; exact h.ref, fun i k => ?_, fun i k => ?_, fun i k hc => ?_, h.szl⟩
  · rw [k46]
    show _ = bI (u2 S.cp r p true i k)
    by_cases e : i = r ∧ k = p
    · rw [e.1, e.2, u2_at, u2_at]; rfl
    · rw [u2_ne (by omega), u2_ne e]; exact h.cop i k hi hk
  · rw [k47]
    show _ = nI (u2 S.hp r p t i k)
    have hvb' : u2 S.vb r p true i k = true := hvb
    by_cases e : i = r ∧ k = p
    · rw [e.1, e.2, u2_at, u2_at]
    · rw [u2_ne e] at hvb'
      rw [u2_ne (by omega), u2_ne e]; exact h.hop i k hi hk hvb'
  · rw [k48]
    show _ = nI (u2 S.nw r p t i k)
    by_cases e : i = r ∧ k = p
    · rw [e.1, e.2, u2_at, u2_at]
    · rw [u2_ne (by omega), u2_ne e]; exact h.new i k hi hk
  · have hs := h.szl l
    show _ = nI (if i = r ∧ 4 * l + j / 8 = p then S.bt g (p / 4) j else S.bt i l j)
    have hvb' : u2 S.vb r p true i (4 * l + j / 8) = true := hvb
    by_cases e : i = r ∧ 4 * l + j / 8 = p
    · have e2 : p / 4 = l := by omega
      rw [if_pos e, e.1, show 512 * r + 32 * l + j = 8 * (64 * r + p) + j % 8 by omega, k49 (j % 8) (by omega), show 8 * (64 * g + p) + j % 8 = 512 * g + 32 * l + j by omega, e2]
      exact h.byt g l j hg hl hj (by rw [e.2]; exact hv)
    · rw [u2_ne e] at hvb'
      rw [if_neg e, k49' _ (by omega)]; exact h.byt i l j hi hl hj hvb'
  · show u2 S.hp r p t i k < _
    by_cases e : i = r ∧ k = p
    · rw [e.1, e.2, u2_at]; exact ht
    · rw [u2_ne e]; exact h.hlt i k
  · show u2 S.nw r p t i k < _
    by_cases e : i = r ∧ k = p
    · rw [e.1, e.2, u2_at]; exact ht
    · rw [u2_ne e]; exact h.nlt i k
  · show u2 S.vb r p true i k = true
    have hc' : u2 S.cp r p true i k = true := hc
    by_cases e : i = r ∧ k = p
    · rw [e.1, e.2, u2_at]
    · rw [u2_ne e] at hc' ⊢; exact h.vcp i k hc'
theorem RM.w30 {s : Mem} {A : Ab} (h : RM s A) {k : Nat} {v : Int32} (hk : k = 35 ∨ k = 36) : RM (mm_wI s 30 0 k v) A :=
  ⟨(wI_k (by omega)).trans h.clk, (wI_k (by omega)).trans h.pub, (wI_k (by omega)).trans h.tln, fun t ht => ⟨(h.tab t ht).cnt, (h.tab t ht).row⟩,
    h.sto.wI (by decide), ⟨(wI_k (by omega)).trans h.ltr.n, h.ltr.sz, h.ltr.srt, h.ltr.org, h.ltr.gl, h.ltr.ad, h.ltr.ps, h.ltr.sm, h.ltr.pr, h.ltr.ex⟩, ⟨h.box.dlv, h.box.quo, h.box.cnt, h.box.lie, h.box.grp⟩, h.txb⟩
theorem RM.sto2 {s s' : Mem} {A : Ab} (h : RM s A) (f : ∀ F, F ≠ 35 → F ≠ 61 → (F < 46 ∨ 52 < F) → s'.1 F = s.1 F) {S : Sto} (hS : QS s' A.L.sz S) : RM s' (mkAb A.now A.T A.pubs S A.L A.B A.txt) :=
  ⟨by rw [f 30 (by decide) (by decide) (by decide)]; exact h.clk, by rw [f 30 (by decide) (by decide) (by decide)]; exact h.pub, by rw [f 30 (by decide) (by decide) (by decide)]; exact h.tln, fun t ht => ⟨by rw [f 34 (by decide) (by decide) (by decide)]; exact (h.tab t ht).cnt, by rw [f 31 (by decide) (by decide) (by decide), f 32 (by decide) (by decide) (by decide), f 33 (by decide) (by decide) (by decide)]; exact (h.tab t ht).row⟩, hS,
    ⟨by rw [f 30 (by decide) (by decide) (by decide)]; exact h.ltr.n, by rw [f 36 (by decide) (by decide) (by decide)]; exact h.ltr.sz, by rw [f 37 (by decide) (by decide) (by decide)]; exact h.ltr.srt, by rw [f 38 (by decide) (by decide) (by decide)]; exact h.ltr.org, by rw [f 39 (by decide) (by decide) (by decide)]; exact h.ltr.gl, by rw [f 40 (by decide) (by decide) (by decide)]; exact h.ltr.ad, by rw [f 41 (by decide) (by decide) (by decide)]; exact h.ltr.ps, by rw [f 42 (by decide) (by decide) (by decide)]; exact h.ltr.sm, by rw [f 43 (by decide) (by decide) (by decide)]; exact h.ltr.pr, by rw [f 44 (by decide) (by decide) (by decide)]; exact h.ltr.ex⟩,
    ⟨by rw [f 45 (by decide) (by decide) (by decide)]; exact h.box.dlv, by rw [f 53 (by decide) (by decide) (by decide)]; exact h.box.quo, by rw [f 54 (by decide) (by decide) (by decide)]; exact h.box.cnt, by rw [f 55 (by decide) (by decide) (by decide)]; exact h.box.lie, by rw [f 56 (by decide) (by decide) (by decide)]; exact h.box.grp⟩, by rw [f 57 (by decide) (by decide) (by decide)]; exact h.txb⟩
section
variable {s : Mem} {A : Ab} {x : Sto × Bxs} {g r l j H : Nat} {ps : List Nat}
theorem M_move (hR : RM s (ABx A x)) (hG : Gr g r) (hj : j < 4) (hl : l < A.L.n) (hM : MI A.L x.1 x.2 H g r ((4 * l + j) :: ps)) (hH : H < 999999) :
    (cN (x.1.cp r) 64 = capa r → ∃ s', f_M_move (nI g) (nI r) (nI l) (nI j) s = mm_ri (nI 0) s' ∧ RM s' (ABx A (refu r x)) ∧ s'.1 30 = s.1 30 ∧ s'.1 60 = s.1 60 ∧ s'.1 61 = s.1 61 ∧ FrN s s') ∧
    (cN (x.1.cp r) 64 ≠ capa r → ∃ s', f_M_move (nI g) (nI r) (nI l) (nI j) s = mm_ri (nI 1) s' ∧ RM s' (ABx A (stp A.L g r (4 * l + j) x)) ∧ s'.1 30 0 35 = nI (64 * g + (4 * l + j)) ∧ s'.1 30 0 36 = nI (x.1.hp g (4 * l + j)) ∧ s'.1 30 0 31 = s.1 30 0 31 ∧ (∀ z, z < 8 → 8 * j + z < A.L.sz l → s'.1 61 0 z = nI (x.1.bt g l (8 * j + z))) ∧ s'.1 60 = s.1 60 ∧ FrN s s') := by
  have n16 := hM.wk.wl.n16
  have hg12 := hG.g12
  have hr12 := hG.r12
  have hcg := hM.cpg _ List.mem_cons_self
  have hcr := hM.cpr _ List.mem_cons_self
  have hcap := hM.ws.cap r hr12
  have hhp := hM.ws.hb g (4 * l + j)
  have hvb := hM.vb g _ hcg
  have hc24 : capa r ≤ 24 := by unfold capa; split <;> omega
  have hgl := hM.wk.wl.gl l hl
  have c1 : s.1 46 0 (64 * g + (4 * l + j)) = bI true := by rw [← hcg]; exact hR.sto.cop g _ hg12 (by omega)
  have c2 : s.1 46 0 (64 * r + (4 * l + j)) = bI false := by rw [← hcr]; exact hR.sto.cop r _ hr12 (by omega)
  have rm := M_room hR.sto hr12 hcap
  have rm' : f_M_room (nI r) s = mm_ri (nI (capa r - cN (x.1.cp r) 64)) s := rm
  refine ⟨fun hc => ?_, fun hc => ?_⟩
  · have h52 : s.1 52 0 r = nI (x.1.rf r) := hR.sto.ref r hr12
    refine ⟨mm_wI s 52 0 r (nI (x.1.rf r + 1)), ?_, hR.sto' (FrQ.wI (by omega)) (QS_rf hR.sto), wI_ne (by decide), wI_ne (by decide), wI_ne (by decide), FrN.wI (by decide)⟩
    unfold f_M_move
    rw [M_at, cI_ok, M_at, cI_ok, ld_ok (by omega) (by omega), show 64 * g + 4 * l + j = 64 * g + (4 * l + j) by omega, c1, if_neg (by decide), ld_ok (by omega) (by omega), show 64 * r + 4 * l + j = 64 * r + (4 * l + j) by omega, c2, if_pos (by decide), rm', cI_ok, hc, Nat.sub_self, if_neg (fun h => h rfl), ld_ok hr12 (by omega), h52, show nI (x.1.rf r) + 1 = nI (x.1.rf r + 1) by simp only [qI_lit, qI_add], st_ok hr12 (by omega)]; rfl
  · have h47 : s.1 47 0 (64 * g + (4 * l + j)) = nI (x.1.hp g (4 * l + j)) := hR.sto.hop g _ hg12 (by omega) hvb
    generalize hP : 64 * g + (4 * l + j) = P at *
    generalize hQ : 64 * r + (4 * l + j) = Q at *
    have hPQ : P ≠ Q := by have := hG.ne; omega
    generalize hs2 : mm_wI (mm_wI s 30 0 35 (nI P)) 30 0 36 (nI (x.1.hp g (4 * l + j))) = s2
    have f2 : ∀ F, F ≠ 30 → s2.1 F = s.1 F := by intro F h; rw [← hs2, wI_ne h, wI_ne h]
    have f2' : s2.2 = s.2 := by rw [← hs2]; rfl
    have hR2 : RM s2 (ABx A x) := by rw [← hs2]; exact (hR.w30 (.inl rfl)).w30 (.inr rfl)
    have z35 : s2.1 30 0 35 = nI P := by rw [← hs2, wI_k (by decide), wI_y]
    have z36 : s2.1 30 0 36 = nI (x.1.hp g (4 * l + j)) := by rw [← hs2, wI_y]
    have z31 : s2.1 30 0 31 = s.1 30 0 31 := by rw [← hs2, wI_k (by decide), wI_k (by decide)]
    obtain ⟨s3, e3, g1, g2, g3, g4, g5⟩ := M_mv80_lp (x2 := nI r) (x3 := nI l) (P := P) (Q := Q) (by omega) (by omega) hPQ (kk := fun s80 =>
        mm_sz s80 46 0 768 (nI Q) ((1 : Int32)) fun s146 =>
        mm_ld s146 47 0 768 (nI P) fun v159 =>
        mm_st s146 47 0 768 (nI Q) (v159 + ((1 : Int32))) fun s162 =>
        mm_ld s162 47 0 768 (nI Q) fun v175 =>
        mm_st s162 48 0 768 (nI Q) v175 fun s176 =>
        mm_ld s176 47 0 768 (nI Q) fun v186 =>
        mm_cV (f_M_hear (nI P) v186 s176) fun s187 =>
        mm_ld s187 39 0 16 (nI l) fun v195 =>
        if ¬ v195 = nI r then (
          mm_rz ((1 : Int32)) s187
        ) else (
          mm_cV (f_M_lookAt (nI l) s187) fun s202 =>
          mm_rz ((1 : Int32)) s202
        )) 8 FU 0 s2 (by omega) (by unfold FU; omega)
    generalize hs4 : mm_wI (mm_wI (mm_wI s3 46 0 Q (nI 1)) 47 0 Q (nI (x.1.hp g (4 * l + j) + 1))) 48 0 Q (nI (x.1.hp g (4 * l + j) + 1)) = s4
    have f4 : ∀ F, F ≠ 46 → F ≠ 47 → F ≠ 48 → F ≠ 49 → F ≠ 61 → s4.1 F = s2.1 F := by intro F h1 h2 h3 h4 h5; rw [← hs4, wI_ne h3, wI_ne h2, wI_ne h1, g4 F h4 h5]
    have f4' : s4.2 = s2.2 := by rw [← hs4, wI_2, wI_2, wI_2, g5]
    have hS4 : QS s4 A.L.sz (oTake x.1 r (4 * l + j) (x.1.hp g (4 * l + j) + 1) (x.1.bt g ((4 * l + j) / 4))) := by
      refine QS_take (s := s2) hR2.sto hg12 hr12 hG.ne (by omega) (by omega) hvb ?_ ?_ ?_ (fun z hz => ?_) (fun k hk => ?_) (f4 35 (by decide) (by decide) (by decide) (by decide) (by decide)) (f4 50 (by decide) (by decide) (by decide) (by decide) (by decide)) (f4 51 (by decide) (by decide) (by decide) (by decide) (by decide)) (f4 52 (by decide) (by decide) (by decide) (by decide) (by decide))
      · rw [← hs4, wI_ne (by decide), wI_ne (by decide), wI_eq, g4 46 (by decide) (by decide), hQ]
      · rw [← hs4, wI_ne (by decide), wI_eq, wI_ne (by decide), g4 47 (by decide) (by decide), hQ]
      · rw [← hs4, wI_eq, wI_ne (by decide), wI_ne (by decide), g4 48 (by decide) (by decide), hQ]
      · rw [← hs4, wI_ne (by decide), wI_ne (by decide), wI_ne (by decide), hQ, hP]; exact (g1 z (by omega) hz).2
      · rw [← hs4, wI_ne (by decide), wI_ne (by decide), wI_ne (by decide)]; exact g2 k (by omega)
    have hR4 := hR2.sto2 (fun F h1 h2 h3 => f4 F (by omega) (by omega) (by omega) (by omega) h2) hS4
    obtain ⟨s5, e5, h5, f5⟩ := M_hear (t := x.1.hp g (4 * l + j) + 1) hS4 hg12 (show 4 * l + j < 64 by omega) (by omega)
    have hR5 : RM s5 (ABx A (mvS x.1 g r (4 * l + j), x.2)) := hR4.sto' f5 h5
    have hgl5 : s5.1 39 0 l = nI (A.L.gl l) := hR5.ltr.gl l hl
    have t30 : s5.1 30 = s2.1 30 := (f5 30 (by decide)).1.trans (f4 30 (by decide) (by decide) (by decide) (by decide) (by decide))
    have t60 : s5.1 60 = s.1 60 := (f5 60 (by decide)).1.trans ((f4 60 (by decide) (by decide) (by decide) (by decide) (by decide)).trans (f2 60 (by decide)))
    have t61 : ∀ z, z < 8 → 8 * j + z < A.L.sz l → s5.1 61 0 z = nI (x.1.bt g l (8 * j + z)) := by
      intro z hz hzs
      have hz32 := hM.wk.wl.s32 l
      rw [(f5 61 (by decide)).1, ← hs4, wI_ne (by decide), wI_ne (by decide), wI_ne (by decide), (g1 z (by omega) hz).1, show 8 * P + z = 512 * g + 32 * l + (8 * j + z) by omega]
      have hb := hR2.sto.byt g l (8 * j + z) hg12 (by omega) hzs (by rw [show 4 * l + (8 * j + z) / 8 = 4 * l + j by omega]; exact hvb)
      exact hb
    have frN : FrN s s5 := by
      refine FrN.tr (b := s4) (fun F hF => ⟨?_, ?_⟩) (FrN.qs f5)
      · rw [f4 F (by omega) (by omega) (by omega) (by omega) (by omega), f2 F (by omega)]
      · rw [f4', f2']
    have hMv : f_M_move (nI g) (nI r) (nI l) (nI j) s = (if ¬ nI (A.L.gl l) = nI r then mm_rz 1 s5 else (mm_cV (f_M_lookAt (nI l) s5) fun s202 => mm_rz 1 s202)) := by
      unfold f_M_move
      rw [M_at, cI_ok, M_at, cI_ok, ld_ok (by omega) (by omega), show 64 * g + 4 * l + j = P by omega, c1, if_neg (by decide), ld_ok (by omega) (by omega), show 64 * r + 4 * l + j = Q by omega, c2, if_pos (by decide), rm', cI_ok, if_pos (by rw [show (0 : Int32) = nI 0 from rfl, qI_inj (by omega) (by omega)]; omega), pf_ok, ld_ok (by omega) (by omega), wI_ne (by decide), h47, pf_ok, hs2]
      refine e3.trans ?_
      have k3 : s3.1 47 0 P = nI (x.1.hp g (4 * l + j)) := by rw [g4 47 (by decide) (by decide), f2 47 (by decide)]; exact h47
      show (mm_sz s3 46 0 768 (nI Q) (bI true) fun s146 => _) = _
      rw [sz_okb (by omega) (by omega), ld_ok (by omega) (by omega), wI_ne (by decide), k3, show nI (x.1.hp g (4 * l + j)) + 1 = nI (x.1.hp g (4 * l + j) + 1) by simp only [qI_lit, qI_add], st_ok (by omega) (by omega), ld_ok (by omega) (by omega), wI_y, st_ok (by omega) (by omega), ld_ok (by omega) (by omega), wI_ne (by decide), wI_y, show bI true = nI 1 from rfl, hs4]
      rw [hP] at e5
      rw [e5, cV_ok, ld_ok (by omega) (by omega), hgl5]
    by_cases c3 : A.L.gl l = r
    · have el : (4 * l + j) / 4 = l := by omega
      have est : stp A.L g r (4 * l + j) x = look A.L l (mvS x.1 g r (4 * l + j), x.2) := by unfold stp; rw [el, if_pos c3]
      have hk := hM.knr _ List.mem_cons_self
      have ws1 := WS_mv hG hM.ws hcg hcr hk hc
      have wk1 : WK A.L (mvS x.1 g r (4 * l + j)) x.2 := WK_kn hM.wk rfl
      obtain ⟨s6, e6, q1, q2, f6⟩ := M_lookAt hR5.sto hR5.ltr hR5.box wk1.wl wk1.wb hl (lk_dl wk1 ws1 hl)
      refine ⟨s6, ?_, ?_, ?_, ?_, ?_, fun z h1 h2 => ?_, ?_, frN.tr (FrN.ks f6)⟩
      · rw [hMv, if_neg (by rw [c3]; exact fun h => h rfl), e6, cV_ok]; rfl
      · rw [est]; exact hR5.lk f6 q1 q2
      · rw [(f6 30 (by decide)).1, t30, z35]
      · rw [(f6 30 (by decide)).1, t30, z36]
      · rw [(f6 30 (by decide)).1, t30, z31]
      · rw [(f6 61 (by decide)).1]; exact t61 z h1 h2
      · rw [(f6 60 (by decide)).1, t60]
    · have el : (4 * l + j) / 4 = l := by omega
      have est : stp A.L g r (4 * l + j) x = (mvS x.1 g r (4 * l + j), x.2) := by unfold stp; rw [el, if_neg c3]
      refine ⟨s5, ?_, by rw [est]; exact hR5, by rw [t30, z35], by rw [t30, z36], by rw [t30, z31], t61, t60, frN⟩
      rw [hMv, if_pos (by rw [qI_inj (by omega) (by omega)]; exact c3)]; rfl
end

-- a meeting broken off
theorem WS_un {L : Lts} {S : Sto} {H g p t : Nat} (ws : WS L S H) (h : Lst L S g p t) (n16 : L.n ≤ 16) : WS L (oUn S g p t) H := by
  have h1 := h.p1
  have hpb := ws.hb g p
  rw [h.hp] at hpb
  refine ⟨fun i hi => ?_, fun i k hk => ?_, fun i k hk => ?_, fun i k hk => ?_, fun i k hk => ?_, ws.k2, ws.knn, fun i k hk => ?_, ws.vbn, fun i k => ?_, fun i k => ?_⟩
  · show cN (u2 S.cp g p true i) 64 ≤ _
    by_cases e : i = g
    · rw [e, u2_row, cN_up (show p < 64 by omega) h.cp]; exact h.cap
    · rw [u2_other _ _ _ e]; exact ws.cap i hi
  · have hk' : u2 S.cp g p true i k = true := hk
    by_cases e : i = g ∧ k = p
    · rw [e.2]; exact ⟨h.p1, h.p2⟩
    · rw [u2_ne e] at hk'; exact ws.cpn i k hk'
  · have hk' : u2 S.cp g p true i k = true := hk
    show u2 S.nw g p t i k = u2 S.hp g p t i k
    by_cases e : i = g ∧ k = p
    · rw [e.1, e.2, u2_at, u2_at]
    · rw [u2_ne e] at hk' ⊢; rw [u2_ne e]; exact ws.nhp i k hk'
  · have hk' : u2 S.cp g p true i k = true := hk
    show u2 S.hp g p t i k % 2 = _
    by_cases e : i = g ∧ k = p
    · rw [e.1, e.2, u2_at]; exact h.par
    · rw [u2_ne e] at hk' ⊢; exact ws.par i k hk'
  · show u2 S.cp g p true i k = false
    by_cases e : i = g ∧ k = p
    · rw [e.1, e.2] at hk; exact absurd h.kn hk
    · rw [u2_ne e]; exact ws.kn0 i k hk
  · show u2 S.nw g p t i k = 0
    by_cases e : i = g ∧ k = p
    · rw [e.2] at hk; omega
    · rw [u2_ne e]; exact ws.nwn i k hk
  · show u2 S.hp g p t i k ≤ _
    by_cases e : i = g ∧ k = p
    · rw [e.1, e.2, u2_at]; exact hpb
    · rw [u2_ne e]; exact ws.hb i k
  · show u2 S.nw g p t i k ≤ _
    by_cases e : i = g ∧ k = p
    · rw [e.1, e.2, u2_at]; exact hpb
    · rw [u2_ne e]; exact ws.nb i k
theorem M_br58_lp {x4 : Int32} {P : Nat} (hP : P < 768) {kk : Mem → RR} : ∀ (m n y : Nat) (s : Mem), y + m = 8 → m < n → s.1 30 0 35 = nI P →
    ∃ s', lp_M_breakOff_58 x4 kk n (nI y) s = kk s' ∧ (∀ z, y ≤ z → z < 8 → s'.1 49 0 (8 * P + z) = s.1 61 0 z) ∧ (∀ k, ¬ (8 * P + y ≤ k ∧ k < 8 * P + 8) → s'.1 49 0 k = s.1 49 0 k) ∧ (∀ F, F ≠ 49 → s'.1 F = s.1 F) ∧ s'.2 = s.2 := by
  intro m
  induction m with
  | zero =>
    intro n y s hy hn h35
    obtain ⟨n, rfl⟩ : ∃ n', n = n' + 1 := ⟨n - 1, by omega⟩
    unfold lp_M_breakOff_58
    rw [if_pos (by simp (disch := omega) only [qI_lit, qI_m1, qI_add, qI_mul, qI_le, qI_lt, qI_inj, qI_ne_m, m_ne_nI, m_lt_nI, m_le_nI, qI_lt_m, qI_le_m, qI_sub, qI_div, qI_rem, bI_0, bI_1]; omega)]
    exact ⟨s, rfl, fun z h1 h2 => by omega, fun _ _ => rfl, fun _ _ => rfl, rfl⟩
  | succ m ih =>
    intro n y s hy hn h35
    obtain ⟨n, rfl⟩ : ∃ n', n = n' + 1 := ⟨n - 1, by omega⟩
    unfold lp_M_breakOff_58
    have e1 : nI y + 1 = nI (y + 1) := by simp (disch := omega) only [qI_lit, qI_m1, qI_add, qI_mul, qI_le, qI_lt, qI_inj, qI_ne_m, m_ne_nI, m_lt_nI, m_le_nI, qI_lt_m, qI_le_m, qI_sub, qI_div, qI_rem, bI_0, bI_1]
    have eP : (8 : Int32) * nI P + nI y = nI (8 * P + y) := by simp only [qI_lit, qI_mul, qI_add]
    rw [if_neg (by simp (disch := omega) only [qI_lit, qI_m1, qI_add, qI_mul, qI_le, qI_lt, qI_inj, qI_ne_m, m_ne_nI, m_lt_nI, m_le_nI, qI_lt_m, qI_le_m, qI_sub, qI_div, qI_rem, bI_0, bI_1]; omega), gf_ok, h35, ld_ok (by omega) (by omega), eP, st_ok (by omega) (by omega), e1]
    obtain ⟨s', e2, g1, g2, g3, g4⟩ := ih n (y + 1) (mm_wI s 49 0 (8 * P + y) (s.1 61 0 y)) (by omega) (by omega) (by rw [wI_ne (by decide)]; exact h35)
    refine ⟨s', e2, fun z h1 h2 => ?_, fun k hk => ?_, fun F h1 => ?_, g4⟩
    · by_cases e : z = y
      · rw [e, g2 _ (by omega), wI_y]
      · rw [g1 z (by omega) h2, wI_ne (by decide)]
    · rw [g2 k (by omega), wI_n (by omega)]
    · rw [g3 F h1, wI_ne h1]
section
variable {s : Mem} {A : Ab} {c b k q : Nat} {x1 x2 x3 : Int32}
theorem M_back {x : Sto × Bxs} {g p t : Nat} (hR : RM s (ABx A x)) (wl : WL A.L) (hl : Lst A.L x.1 g p t) (ht : t < 1000000) (hw : LasM s A.L.sz x.1.bt (some (g, p, t))) {N : Int32} :
    ∃ s', (mm_gf s 30 0 35 fun v24 => mm_sz s 46 0 768 v24 ((1 : Int32)) fun s28 => mm_gf s28 30 0 35 fun v34 => mm_gf s28 30 0 36 fun v38 => mm_st s28 47 0 768 v34 v38 fun s41 => mm_gf s41 30 0 35 fun v47 => mm_gf s41 30 0 36 fun v51 => mm_st s41 48 0 768 v47 v51 fun s54 => mm_lp (fun kk => lp_M_breakOff_58 N kk FU ((0 : Int32)) s54) fun s58 => mm_ri N s58) = mm_ri N s' ∧ RM s' (ABx A (oUn x.1 g p t, x.2)) ∧ s'.1 30 0 31 = s.1 30 0 31 ∧ FrN s s' := by
  have n16 := wl.n16
  have hp1 := hl.p1
  have hg12 := hl.g12
  obtain ⟨w1, w2, w3⟩ := hw
  have hp64 : p < 64 := by omega
  have h1 := QS_nw (t := t) (QS_hp (t := t) (QS_cp (b := true) hR.sto hg12 hp64 (fun _ => hl.vb)) hg12 hp64 ht) hg12 hp64 ht
  generalize hs3 : mm_wI (mm_wI (mm_wI s 46 0 (64 * g + p) (bI true)) 47 0 (64 * g + p) (nI t)) 48 0 (64 * g + p) (nI t) = s3
  rw [hs3] at h1
  have f3 : ∀ F, F ≠ 46 → F ≠ 47 → F ≠ 48 → s3.1 F = s.1 F := by intro F a1 a2 a3; rw [← hs3, wI_ne a3, wI_ne a2, wI_ne a1]
  have f3' : s3.2 = s.2 := by rw [← hs3]; rfl
  obtain ⟨s4, e4, g1, g2, g3, g4⟩ := M_br58_lp (x4 := N) (P := 64 * g + p) (by omega) (kk := fun s58 => mm_ri N s58) 8 FU 0 s3 (by omega) (by unfold FU; omega) (by rw [f3 30 (by decide) (by decide) (by decide)]; exact w1)
  have hS4 : QS s4 A.L.sz (oUn x.1 g p t) := by
    refine ⟨by rw [g3 35 (by decide)]; exact h1.hel, by rw [g3 46 (by decide)]; exact h1.cop, by rw [g3 47 (by decide)]; exact h1.hop, by rw [g3 48 (by decide)]; exact h1.new, fun i l j a1 a2 a3 a4 => ?_, by rw [g3 50 (by decide)]; exact h1.kno, by rw [g3 51 (by decide)]; exact h1.exl, by rw [g3 52 (by decide)]; exact h1.ref, h1.hlt, h1.nlt, h1.vcp, h1.szl⟩
    have hs := wl.s32 l
    have a3' : j < A.L.sz l := a3
    by_cases e : i = g ∧ 4 * l + j / 8 = p
    · have e2 : p / 4 = l := by omega
      have e3 : 8 * (p % 4) + j % 8 = j := by omega
      have := w3 (j % 8) (by omega) (by rw [e2, e3]; exact a3')
      rw [e2, e3] at this
      rw [e.1, show 512 * g + 32 * l + j = 8 * (64 * g + p) + j % 8 by omega, g1 (j % 8) (by omega) (by omega), f3 61 (by decide) (by decide) (by decide), this]; rfl
    · rw [g2 _ (by omega)]; exact h1.byt i l j a1 a2 a3 a4
  have q4 : ∀ F, F ≠ 46 → F ≠ 47 → F ≠ 48 → F ≠ 49 → s4.1 F = s.1 F := fun F a1 a2 a3 a4 => (g3 F a4).trans (f3 F a1 a2 a3)
  refine ⟨s4, ?_, hR.sto2 (fun F a1 a2 a3 => q4 F (by omega) (by omega) (by omega) (by omega)) hS4, by rw [q4 30 (by decide) (by decide) (by decide) (by decide)], fun F hF => ⟨q4 F (by omega) (by omega) (by omega) (by omega), by rw [g4, f3']⟩⟩
  rw [gf_ok, w1, show (1 : Int32) = bI true from rfl, sz_okb (by omega) (by omega), gf_ok, wI_ne (by decide), w1, gf_ok, wI_ne (by decide), w2, st_ok (by omega) (by omega), gf_ok, wI_ne (by decide), wI_ne (by decide), w1, gf_ok, wI_ne (by decide), wI_ne (by decide), w2, st_ok (by omega) (by omega), hs3]
  exact e4
theorem call_breakOff (hX : RX s A) (hW : WF A c) (hc6 : c ≤ 600) : Agr (f_X_breakOff x1 x2 x3) (f_M_breakOff x1 x2 x3) 2 1 1 s A c := by
  cases hg : mGd x1 x2 x3 with
  | false =>
    refine Agr.no hX hW (e := 1) (by decide) (by decide) (by rw [X_break_g, hg]; rfl) fun t ht => ⟨0, mm_wI (mm_wI t 30 0 31 (nI 1)) 30 0 35 (-1), ?_, ?_, ht.thr.w30 (.inl rfl), (FrN.wI (by decide)).tr (FrN.wI (by decide))⟩
    · unfold f_M_breakOff
      rw [M_meeting_no hg, cI_ok, gf_ok, wI_y, if_neg (by decide)]
    · rw [wI_k (by decide), wI_y]
  | true =>
    have hg' := hg
    unfold mGd at hg
    simp only [Bool.and_eq_true] at hg
    obtain ⟨⟨h1, h2⟩, h3⟩ := hg
    obtain ⟨b, hb1, hb2, rfl⟩ := inR_get (by decide) (by decide) h1
    obtain ⟨k, _, hk, rfl⟩ := inR_get (by decide) (by decide) h2
    obtain ⟨q, _, hq, rfl⟩ := inR_get (by decide) (by decide) h3
    obtain ⟨s1, e1, k1, k2, f1, lK, lB, n0, n1, hv⟩ := X_hold (q := q) hX hW hc6 ⟨hb1, hb2⟩ hk (by omega)
    obtain ⟨hW1, hLI, hWS, hN⟩ := meet_WF (q := q) hW ⟨hb1, hb2⟩ hk n0 n1 hv
    have hnn := m_none A b k q
    cases hw : (mY1 A b k q).2.2 with
    | none =>
      have h0 : mN A b k q = 0 := hnn.mp hw
      refine Agr.yes (by decide) hW1 (s' := s1) (v := nI (mN A b k q)) (by rw [X_break_g, hg', if_pos rfl, e1, cI_ok, if_pos (by rw [h0]; decide)]) k1 f1 fun t ht => ?_
      obtain ⟨t1, e2, g1, g2, g3, g4⟩ := M_meeting (q := q) ht hW hc6 ⟨hb1, hb2⟩ hk (by omega) lK lB n0 n1 hv
      rw [hw] at g2
      have g2' : t1.1 30 0 35 = mone := g2
      exact ⟨t1, by unfold f_M_breakOff; rw [e2, cI_ok, gf_ok, g2', if_neg (by decide)], g3, g1, g4⟩
    | some w =>
      obtain ⟨g, p, t⟩ := w
      have h0 : mN A b k q ≠ 0 := fun h => by have := hnn.mpr h; rw [hw] at this; exact nomatch this
      rw [hw] at hLI k2
      have hl : Lst A.L (mY1 A b k q).1.1 g p t := hLI
      have n16 := hW.wk.wl.n16
      have hp1 := hl.p1
      have hp64 : p < 64 := by omega
      have htb : t ≤ 128 * c + 48 := by have := hWS.hb g p; rw [hl.hp] at this; exact this
      obtain ⟨s2, e2, u1', f2⟩ := S_unlearn k1.sto hl.g12 hp64 (t := t) hl.cp hl.vb hl.nw
      have hW2 : WF (ABx A (oUn (mY1 A b k q).1.1 g p t, (mY1 A b k q).1.2)) (c + 1) := ⟨hW1.now, hW1.pub, hW1.tab, hW1.hel, ⟨hW1.wk.wl, hW1.wk.wb, hW1.wk.dlk, hW1.wk.dln⟩, (WS_un hWS hl n16).mono (by omega), hW1.ps, hW1.t32⟩
      refine Agr.yes (by decide) hW2 (s' := s2) (v := nI (mN A b k q)) ?_ (k1.sto' f2 u1') (f1.tr (FrC.ss f2)) fun u hu => ?_
      · rw [X_break_g, hg', if_pos rfl, e1, cI_ok, if_neg (by rw [show (0 : Int32) = nI 0 from rfl, qI_le (by omega) (by omega)]; omega), gf_ok, k2.1, al_ok hl.g12 (by have := hl.g12; omega), gf_ok, k2.2, e2, cV_ok]
      · obtain ⟨t1, e3, g1, g2, g3, g4⟩ := M_meeting (q := q) hu hW hc6 ⟨hb1, hb2⟩ hk (by omega) lK lB n0 n1 hv
        rw [hw] at g2
        obtain ⟨t2, e4, r1, r2, r3⟩ := M_back (N := nI (mN A b k q)) g1 hW.wk.wl hl (by omega) g2
        refine ⟨t2, ?_, by rw [r2]; exact g3, r1, g4.tr r3⟩
        have g35 : t1.1 30 0 35 = nI (64 * g + p) := g2.1
        unfold f_M_breakOff
        rw [e3, cI_ok, gf_ok, g35, if_pos (by rw [show (0 : Int32) = nI 0 from rfl, qI_le (by omega) (by have := hl.g12; omega)]; omega)]
        exact e4
end

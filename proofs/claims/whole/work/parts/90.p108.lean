-- minute
def expA (A : Ab) (b : Nat) : Ab := mkAb b A.T A.pubs (expS A.L A.S (due A.L A.now b)) (expL A.L A.S (due A.L A.now b)) A.B A.txt
def lkN (A : Ab) : Ab := mkAb A.now A.T A.pubs (lookF A.L (fun _ => true) A.L.n 0 (A.S, A.B)).1 A.L (lookF A.L (fun _ => true) A.L.n 0 (A.S, A.B)).2 A.txt
theorem expA_0 (A : Ab) : expA A A.now = A := by
  unfold expA; rw [expS_0 _ _ (fun l => due_0), expL_0 _ _ (fun l => due_0)]
theorem expA_2 {A : Ab} {b d : Nat} (h1 : A.now ≤ b) (h2 : b ≤ d) : expA (expA A b) d = expA A d := by
  have e1 : ∀ l, due A.L b d l = true → due A.L A.now b l = false := fun l h => due_dis h
  have e2 := expS_comp (L := A.L) (S := A.S) e1
  have e3 := expL_comp (L := A.L) (S := A.S) e1
  rw [due_comp h1 h2] at e2 e3
  show mkAb d A.T A.pubs (expS (expL A.L A.S (due A.L A.now b)) (expS A.L A.S (due A.L A.now b)) (due A.L b d)) (expL (expL A.L A.S (due A.L A.now b)) (expS A.L A.S (due A.L A.now b)) (due A.L b d)) A.B A.txt = _
  rw [e2, e3]; rfl
section
variable {s : Mem} {A : Ab} {c H : Nat} {x1 : Int32}
theorem X_expA (hX : RX s A) (wk : WK A.L A.S A.B) (ws : WS A.L A.S H) (hps : ∀ l, l < A.L.n → A.L.ps l ≤ A.now) {b : Nat} (hb : A.now ≤ b) (hb2 : b < 2000000000) : ∃ s', f_X_expireWhatIsDue (mm_wI s 0 0 0 (nI b)) = mm_rv s' ∧ RX s' (expA A b) ∧ FrC s s' := by
  have h16 := wk.wl.n16
  have hL0 : RLe (mm_wI s 0 0 0 (nI b)) A.L (ovJ A.L A.now b 0) (expL A.L A.S (DJ A.L A.now b 0)).ex := by
    rw [expL_0 _ _ (fun l => DJ_0)]
    refine ⟨(wI_k (by decide)).trans hX.ltr.n, hX.ltr.org, hX.ltr.gl, hX.ltr.ad, hX.ltr.srt, hX.ltr.ps, hX.ltr.pr, hX.ltr.sz, hX.ltr.sm, fun l hl => ?_, hX.ltr.ex⟩
    unfold ovJ; rw [if_neg (by omega)]; exact hX.ltr.ov l hl
  obtain ⟨s1, e1, h1, h2, f1⟩ := X_expire_lp (L := A.L) (S := A.S) (sz := A.L.sz) (a := A.now) (b := b) wk.wl ws.k2 hb hb2 hps (kk := fun s2 => mm_rv s2) A.L.n FU 0 (mm_wI s 0 0 0 (nI b)) (by omega) (by unfold FU; omega) wI_y (by rw [expS_0 _ _ (fun l => DJ_0)]; exact hX.sto.fr rfl rfl rfl rfl rfl) hL0
  have q : ∀ F, F ≠ 0 → F ≠ 19 → (F < 7 ∨ 11 < F) → s1.1 F = s.1 F := fun F g1 g2 g3 => (f1 F ⟨g2, g3⟩).1.trans (wI_ne g1)
  have q0 : ∀ k, k ≠ 0 → s1.1 0 0 k = s.1 0 0 k := fun k hk => by rw [(f1 0 (by decide)).1, wI_k hk]
  have q2 : ∀ F, F ≠ 19 → (F < 7 ∨ 11 < F) → s1.2 F = s.2 F := fun F g1 g2 => (f1 F ⟨g1, g2⟩).2
  refine ⟨s1, e1, ⟨by rw [(f1 0 (by decide)).1]; exact wI_y, by rw [q0 3 (by decide)]; exact hX.pub, by rw [q0 9 (by decide)]; exact hX.tln, fun t ht => (hX.tab t ht).elim fun L hL => ⟨L, hL.1.fr (q 1 (by decide) (by decide) (by decide)) (q 2 (by decide) (by decide) (by decide)) (q 3 (by decide) (by decide) (by decide)) (q 4 (by decide) (by decide) (by decide)), hL.2⟩, h1, ⟨h2.n, h2.org, h2.gl, h2.ad, h2.srt, h2.ps, h2.pr, h2.sz, h2.sm, fun l hl => ?_, h2.ex⟩, ⟨?_, ?_, ?_, ?_, ?_, ?_⟩, ?_⟩, fun F hF => ⟨q F (by omega) (by omega) (by omega), q2 F (by omega) (by omega)⟩⟩
  · rw [h2.ov l hl]
    show bI (ovJ A.L A.now b A.L.n l) = bI (decide (l < A.L.n ∧ A.L.ps l + 7200 ≤ b))
    unfold ovJ
    by_cases e : l < A.L.n
    · rw [if_pos e]
    · rw [if_neg e, decide_eq_false (fun h => e h.1), decide_eq_false (fun h => e h.1)]
  · rw [q 15 (by decide) (by decide) (by decide)]; exact hX.box.grp
  · rw [q 16 (by decide) (by decide) (by decide)]; exact hX.box.cnt
  · rw [q 16 (by decide) (by decide) (by decide)]; exact hX.box.byt
  · rw [q 16 (by decide) (by decide) (by decide)]; exact hX.box.quo
  · rw [q 17 (by decide) (by decide) (by decide)]; exact hX.box.lie
  · rw [q2 20 (by decide) (by decide)]; exact hX.box.dlv
  · rw [q2 21 (by decide) (by decide)]; exact hX.txb
theorem expA_ok (wk : WK A.L A.S A.B) (ws : WS A.L A.S H) (b : Nat) : WK (expA A b).L (expA A b).S (expA A b).B ∧ WS (expA A b).L (expA A b).S H := exp_ok _ wk ws
theorem lkN_ok (wk : WK A.L A.S A.B) (ws : WS A.L A.S H) : WK (lkN A).L (lkN A).S (lkN A).B ∧ WS (lkN A).L (lkN A).S H ∧ (lkN A).S.held = A.S.held := lookF_ok (L := A.L) A.L.n 0 A.S A.B (Nat.le_of_eq (Nat.zero_add _)) wk ws
theorem M_min_step (hR : RM s A) (wk : WK A.L A.S A.B) (ws : WS A.L A.S H) (hps : ∀ l, l < A.L.n → A.L.ps l ≤ A.now) (hb : A.now + 1 < 2000000000) {x j n : Nat} (hj : j < x) (hx : x ≤ 20000) {kk : Mem → RR} :
    ∃ s', lp_M_minute_32 (nI x) kk (n + 1) (nI j) s = lp_M_minute_32 (nI x) kk n (nI (j + 1)) s' ∧ RM s' (lkN (expA A (A.now + 1))) ∧ FrN s s' ∧ s'.1 30 0 31 = s.1 30 0 31 := by
  have h16 := wk.wl.n16
  have e1 : nI j + 1 = nI (j + 1) := by simp (disch := omega) only [qI_lit, qI_m1, qI_add, qI_mul, qI_le, qI_lt, qI_inj, qI_ne_m, m_ne_nI, m_lt_nI, m_le_nI, qI_lt_m, qI_le_m, qI_sub, qI_div, qI_rem, bI_0, bI_1]
  conv => enter [1, s', 1, 1]; unfold lp_M_minute_32
  rw [if_neg (by simp (disch := omega) only [qI_lit, qI_m1, qI_add, qI_mul, qI_le, qI_lt, qI_inj, qI_ne_m, m_ne_nI, m_lt_nI, m_le_nI, qI_lt_m, qI_le_m, qI_sub, qI_div, qI_rem, bI_0, bI_1]; omega), gf_ok, hR.clk, pf_ok, e1, show nI A.now + 1 = nI (A.now + 1) by simp only [qI_lit, qI_add]]
  have hR0 : RM (mm_wI s 30 0 5 (nI (A.now + 1))) (mkAb (A.now + 1) A.T A.pubs A.S A.L A.B A.txt) :=
    ⟨wI_y, (wI_k (by decide)).trans hR.pub, (wI_k (by decide)).trans hR.tln, fun t ht => ⟨(hR.tab t ht).cnt, (hR.tab t ht).row⟩, hR.sto.wI (by decide), ⟨(wI_k (by decide)).trans hR.ltr.n, hR.ltr.sz, hR.ltr.srt, hR.ltr.org, hR.ltr.gl, hR.ltr.ad, hR.ltr.ps, hR.ltr.sm, hR.ltr.pr, hR.ltr.ex⟩, ⟨hR.box.dlv, hR.box.quo, hR.box.cnt, hR.box.lie, hR.box.grp⟩, hR.txb⟩
  obtain ⟨s1, e2, h1, h2, f1⟩ := M_exp_lp (L := A.L) (S := A.S) (sz := A.L.sz) (a := A.now) (b := A.now + 1) wk.wl ws.k2 rfl hb (fun l hl => Nat.le_succ_of_le (hps l hl)) (x1 := nI x) (x2 := nI j) (kk := fun s49 => mm_lp (fun kk => lp_M_minute_87 (nI x) (nI j) kk FU ((0 : Int32)) s49) fun s87 => lp_M_minute_32 (nI x) kk n (nI (j + 1)) s87) A.L.n FU 0 (mm_wI s 30 0 5 (nI (A.now + 1))) (by omega) (by unfold FU; omega) wI_y (by rw [expS_0 _ _ (fun l => DJ_0)]; exact hR0.sto) (by rw [expL_0 _ _ (fun l => DJ_0)]; exact hR0.ltr)
  have q : ∀ F, F ≠ 44 → F ≠ 35 → (F < 46 ∨ 52 < F) → s1.1 F = (mm_wI s 30 0 5 (nI (A.now + 1))).1 F := fun F g1 g2 g3 => (f1 F g1 g2 g3).1
  have hR1 : RM s1 (expA A (A.now + 1)) := by
    refine ⟨by rw [q 30 (by decide) (by decide) (by decide)]; exact wI_y, by rw [q 30 (by decide) (by decide) (by decide)]; exact hR0.pub, by rw [q 30 (by decide) (by decide) (by decide)]; exact hR0.tln, fun t ht => ⟨by rw [q 34 (by decide) (by decide) (by decide)]; exact (hR0.tab t ht).cnt, by rw [q 31 (by decide) (by decide) (by decide), q 32 (by decide) (by decide) (by decide), q 33 (by decide) (by decide) (by decide)]; exact (hR0.tab t ht).row⟩, h1, h2, ⟨?_, ?_, ?_, ?_, ?_⟩, ?_⟩
    · rw [q 45 (by decide) (by decide) (by decide)]; exact hR.box.dlv
    · rw [q 53 (by decide) (by decide) (by decide)]; exact hR.box.quo
    · rw [q 54 (by decide) (by decide) (by decide)]; exact hR.box.cnt
    · rw [q 55 (by decide) (by decide) (by decide)]; exact hR.box.lie
    · rw [q 56 (by decide) (by decide) (by decide)]; exact hR.box.grp
    · rw [q 57 (by decide) (by decide) (by decide)]; exact hR.txb
  obtain ⟨wk1, ws1⟩ := expA_ok wk ws (A.now + 1)
  obtain ⟨s2, e3, h3, h4, f2⟩ := M_lookAllN_lp (H := H) (L := (expA A (A.now + 1)).L) (x1 := nI x) (x2 := nI j) (kk := fun s87 => lp_M_minute_32 (nI x) kk n (nI (j + 1)) s87) (expA A (A.now + 1)).L.n FU 0 s1 (expA A (A.now + 1)).S (expA A (A.now + 1)).B (by omega) (by unfold FU; show A.L.n < _; omega) hR1.sto hR1.ltr hR1.box wk1 ws1
  refine ⟨s2, e2.trans e3, hR1.lk f2 h3 h4, ?_, ?_⟩
  · refine FrN.tr (b := s1) (fun F hF => ?_) (FrN.ks f2)
    obtain ⟨g1, g2⟩ := f1 F (by omega) (by omega) (by omega)
    exact ⟨g1.trans (wI_ne (by omega)), g2⟩
  · rw [(f2 30 (by decide)).1, q 30 (by decide) (by decide) (by decide), wI_k (by decide)]
theorem lkN_quiet (wl : WL A.L) : Qt (lkN A).L (lkN A).S (lkN A).B (lkN A).L.n := Qt_all (L := A.L) wl A.L.n 0 A.S A.B (Nat.zero_add _) (fun l hl => absurd hl (Nat.not_lt_zero _))
theorem lkN_same (h : Qt A.L A.S A.B A.L.n) : lkN A = A := by
  unfold lkN
  rw [Qt_lookF h _ A.L.n 0 (by omega)]
theorem M_min_lp (wk : WK A.L A.S A.B) (ws : WS A.L A.S H) (hps : ∀ l, l < A.L.n → A.L.ps l ≤ A.now) (hq : Qt A.L A.S A.B A.L.n) {x : Nat} (hx : x ≤ 20000) (hb : A.now + 20000 < 2000000000) {kk : Mem → RR} : ∀ (m n j t : Nat) (s : Mem), j + m = x → m < n → t + m ≤ A.now + 20000 → A.now ≤ t → RM s (expA A t) →
    ∃ s', lp_M_minute_32 (nI x) kk n (nI j) s = kk s' ∧ RM s' (expA A (t + m)) ∧ FrN s s' ∧ s'.1 30 0 31 = s.1 30 0 31 := by
  intro m
  induction m with
  | zero =>
    intro n j t s hj hn ht ht2 hR
    obtain ⟨n, rfl⟩ : ∃ n', n = n' + 1 := ⟨n - 1, by omega⟩
    unfold lp_M_minute_32
    rw [if_pos (by simp (disch := omega) only [qI_lit, qI_m1, qI_add, qI_mul, qI_le, qI_lt, qI_inj, qI_ne_m, m_ne_nI, m_lt_nI, m_le_nI, qI_lt_m, qI_le_m, qI_sub, qI_div, qI_rem, bI_0, bI_1]; omega)]
    exact ⟨s, rfl, hR, FrN.rf, rfl⟩
  | succ m ih =>
    intro n j t s hj hn ht ht2 hR
    obtain ⟨n, rfl⟩ : ∃ n', n = n' + 1 := ⟨n - 1, by omega⟩
    obtain ⟨wk1, ws1⟩ := expA_ok wk ws t
    obtain ⟨s1, e1, h1, f1, g1⟩ := M_min_step (A := expA A t) (H := H) (kk := kk) (n := n) (j := j) (x := x) hR wk1 ws1 (fun l hl => Nat.le_trans (hps l hl) ht2) (by show t + 1 < _; omega) (by omega) hx
    have e2 : lkN (expA (expA A t) ((expA A t).now + 1)) = expA A (t + 1) := by
      show lkN (expA (expA A t) (t + 1)) = _
      rw [expA_2 ht2 (by omega)]
      exact lkN_same (Qt_exp _ hq)
    rw [e2] at h1
    obtain ⟨s2, e3, h2, f2, g2⟩ := ih n (j + 1) (t + 1) s1 (by omega) (by omega) (by omega) (by omega) h1
    exact ⟨s2, e1.trans e3, by rw [show t + (m + 1) = t + 1 + m by omega]; exact h2, f1.tr f2, g2.trans g1⟩
def minA (A : Ab) (x : Nat) : Ab := expA (lkN (expA A (A.now + 1))) (A.now + x)
theorem call_minute (hX : RX s A) (hW : WF A c) (hc6 : c ≤ 600) : Agr (f_X_minute x1) (f_M_minute x1) 2 1 1 s A c := by
  have hnow := hW.now
  have h16 := hW.wk.wl.n16
  cases hg : inR 1 20001 x1 with
  | false =>
    have hg' : x1 < 1 ∨ (¬ x1 < 1 ∧ 20000 < x1) := by
      by_cases h1 : x1 < 1
      · exact .inl h1
      · refine .inr ⟨h1, ?_⟩
        by_cases h2 : 20000 < x1
        · exact h2
        · exact absurd (decide_eq_true (⟨nlt_le.mp h1, (lt_succ_le (a := 20000) (by decide)).mpr (nlt_le.mp h2)⟩ : nI 1 ≤ x1 ∧ x1 < nI 20001)) (by unfold inR at hg; rw [hg]; decide)
    refine Agr.no hX hW (e := 1) (by decide) (by decide) ?_ fun t ht => ⟨nI 0, mm_wI t 30 0 31 (nI 1), ?_, wI_y, ht.thr, FrN.wI (by decide)⟩
    · unfold f_X_minute
      rw [jn_ok]
      rcases hg' with h | ⟨h, h2⟩
      · rw [if_pos h]; rfl
      · rw [if_neg h, if_pos h2]; rfl
    · unfold f_M_minute
      rw [jn_ok]
      have key : (mm_pf t 30 0 31 1 fun s18 => mm_gf s18 30 0 31 fun v22 => if v22 = 0 then (mm_lp (fun kk => lp_M_minute_32 x1 kk FU ((0 : Int32)) s18) fun s32 => mm_gf s32 30 0 5 fun v113 => mm_ri v113 s32) else mm_ri ((0 : Int32)) s18) = mm_ri (nI 0) (mm_wI t 30 0 31 (nI 1)) := by
        rw [pf_ok, gf_ok, wI_y, if_neg (by decide)]; rfl
      rcases hg' with h | ⟨h, h2⟩
      · rw [if_pos h]; exact key
      · rw [if_neg h, if_pos h2]; exact key
  | true =>
    obtain ⟨x, hx1, hx2, rfl⟩ := inR_get (by decide) (by decide) hg
    have n1 : ¬ nI x < 1 := by rw [show (1 : Int32) = nI 1 from rfl, qI_lt (by omega) (by omega)]; omega
    have n2 : ¬ 20000 < nI x := by rw [show (20000 : Int32) = nI 20000 from rfl, qI_lt (by omega) (by omega)]; omega
    obtain ⟨wk1, ws1⟩ := expA_ok hW.wk hW.ws (A.now + 1)
    obtain ⟨wk2, ws2, hh2⟩ := lkN_ok wk1 ws1
    obtain ⟨wk3, ws3⟩ := expA_ok wk2 ws2 (A.now + x)
    have hps2 : ∀ l, l < (lkN (expA A (A.now + 1))).L.n → (lkN (expA A (A.now + 1))).L.ps l ≤ (lkN (expA A (A.now + 1))).now := fun l hl => Nat.le_succ_of_le (hW.ps l hl)
    have hW3 : WF (minA A x) (c + 1) := by
      refine ⟨?_, hW.pub, hW.tab, fun i => ?_, wk3, ws3.mono (by omega), fun l hl => ?_, hW.t32⟩
      · show A.now + x ≤ _; omega
      · show (lkN (expA A (A.now + 1))).S.held i ≤ A.pubs
        rw [hh2]; exact hW.hel i
      · show A.L.ps l ≤ A.now + x
        have := hW.ps l hl; omega
    obtain ⟨s1, e1, h1, f1⟩ := X_expA hX hW.wk hW.ws hW.ps (b := A.now + 1) (by omega) (by omega)
    obtain ⟨s2, e2, h2, h2', f2⟩ := X_lookAllN_lp (H := 128 * c) (L := (expA A (A.now + 1)).L) (now := (expA A (A.now + 1)).now) (x1 := nI x) (kk := fun s36 => mm_gf s36 0 0 0 fun v57 => mm_pf s36 0 0 0 (v57 + (nI x - ((1 : Int32)))) fun s64 => mm_cV (f_X_expireWhatIsDue s64) fun s68 => mm_gf s68 0 0 0 fun v72 => mm_ri v72 s68) (expA A (A.now + 1)).L.n FU 0 s1 (expA A (A.now + 1)).S (expA A (A.now + 1)).B (by omega) (by unfold FU; show A.L.n < _; omega) h1.sto h1.ltr h1.box wk1 ws1
    have hX2 : RX s2 (lkN (expA A (A.now + 1))) := h1.lk f2 h2 h2'
    obtain ⟨s3, e3, h3, f3⟩ := X_expA hX2 wk2 ws2 hps2 (b := A.now + x) (by show A.now + 1 ≤ _; omega) (by omega)
    refine Agr.yes (by decide) hW3 (s' := s3) (v := nI (A.now + x)) ?_ h3 (f1.tr ((FrC.ls f2).tr f3)) fun t ht => ?_
    · unfold f_X_minute
      rw [jn_ok, if_neg n1, if_neg n2]
      show (mm_tV (f_X_demand (bI true) s) fun s17 => mm_gf s17 0 0 0 fun v22 => mm_pf s17 0 0 0 (v22 + ((1 : Int32))) fun s27 => mm_cV (f_X_expireWhatIsDue s27) fun s31 => mm_lp (fun kk => lp_X_minute_36 (nI x) kk FU ((0 : Int32)) s31) fun s36 => mm_gf s36 0 0 0 fun v57 => mm_pf s36 0 0 0 (v57 + (nI x - ((1 : Int32)))) fun s64 => mm_cV (f_X_expireWhatIsDue s64) fun s68 => mm_gf s68 0 0 0 fun v72 => mm_ri v72 s68) = _
      rw [X_demand, if_pos rfl, tV_ok, gf_ok, hX.clk, pf_ok, show nI A.now + 1 = nI (A.now + 1) by simp only [qI_lit, qI_add], e1, cV_ok]
      refine e2.trans ?_
      have hclk2 : s2.1 0 0 0 = nI (A.now + 1) := hX2.clk
      have hclk3 : s3.1 0 0 0 = nI (A.now + x) := h3.clk
      rw [gf_ok, hclk2, pf_ok, show (1 : Int32) = nI 1 from rfl, qI_sub hx1, qI_add, show A.now + 1 + (x - 1) = A.now + x by omega, e3, cV_ok, gf_ok, hclk3]
    · have ht1 := ht.thr (v := nI 0)
      obtain ⟨t1, et1, g1, k1, z1⟩ := M_min_step (n := 99999) (kk := fun s32 => mm_gf s32 30 0 5 fun v113 => mm_ri v113 s32) (j := 0) (x := x) ht1 hW.wk hW.ws hW.ps (by omega) (by omega) (by omega)
      have g1' : RM t1 (expA (lkN (expA A (A.now + 1))) (A.now + 1)) := by
        have := expA_0 (lkN (expA A (A.now + 1)))
        show RM t1 (expA (lkN (expA A (A.now + 1))) (lkN (expA A (A.now + 1))).now)
        rw [this]; exact g1
      obtain ⟨t2, et2, g2, k2, z2⟩ := M_min_lp (A := lkN (expA A (A.now + 1))) wk2 ws2 hps2 (lkN_quiet wk1.wl) (x := x) (by omega) (by show A.now + 1 + 20000 < _; omega) (kk := fun s32 => mm_gf s32 30 0 5 fun v113 => mm_ri v113 s32) (x - 1) 99999 (0 + 1) (A.now + 1) t1 (by omega) (by omega) (by show A.now + 1 + (x - 1) ≤ A.now + 1 + 20000; omega) (Nat.le_refl _) g1'
      rw [show A.now + 1 + (x - 1) = A.now + x by omega] at g2
      refine ⟨t2, ?_, ?_, g2, (FrN.wI (by decide)).tr (k1.tr k2)⟩
      · unfold f_M_minute
        rw [jn_ok, if_neg n1, if_neg n2]
        show (mm_pf t 30 0 31 (nI 0) fun s18 => mm_gf s18 30 0 31 fun v22 => if v22 = 0 then (lp_M_minute_32 (nI x) (fun s32 => mm_gf s32 30 0 5 fun v113 => mm_ri v113 s32) FU (nI 0) s18) else mm_ri ((0 : Int32)) s18) = _
        rw [pf_ok, gf_ok, wI_y, if_pos (by decide)]
        refine (show lp_M_minute_32 (nI x) _ FU (nI 0) _ = lp_M_minute_32 (nI x) _ (99999 + 1) (nI 0) _ from rfl).trans (et1.trans (et2.trans ?_))
        have : t2.1 30 0 5 = nI (A.now + x) := g2.clk
        rw [gf_ok, this]
      · rw [z2, z1, wI_y]
end

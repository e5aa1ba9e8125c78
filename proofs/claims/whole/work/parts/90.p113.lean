def FrP (s s' : Mem) : Prop := ∀ F, (F < 58 ∨ 60 < F) → s'.1 F = s.1 F ∧ s'.2 F = s.2 F
theorem FrP.rf {s : Mem} : FrP s s := fun _ _ => ⟨rfl, rfl⟩
theorem FrP.tr {a b c : Mem} (h : FrP a b) (g : FrP b c) : FrP a c := fun F hF => ⟨(g F hF).1.trans (h F hF).1, (g F hF).2.trans (h F hF).2⟩
theorem FrP.as_ {a b : Mem} (h : FrA a b) : FrP a b := fun F hF => h F (by omega)
theorem RM.frp {s s' : Mem} {A : Ab} (ht1 : RM s A) (f2 : FrP s s') : RM s' A :=
  ⟨by rw [(f2 30 (by decide)).1]; exact ht1.clk, by rw [(f2 30 (by decide)).1]; exact ht1.pub, by rw [(f2 30 (by decide)).1]; exact ht1.tln, fun t ht => ⟨by rw [(f2 34 (by decide)).1]; exact (ht1.tab t ht).cnt, by rw [(f2 31 (by decide)).1, (f2 32 (by decide)).1, (f2 33 (by decide)).1]; exact (ht1.tab t ht).row⟩,
    ht1.sto.fr (f2 35 (by decide)).1 (f2 46 (by decide)).1 (f2 47 (by decide)).1 (f2 48 (by decide)).1 (f2 49 (by decide)).1 (f2 50 (by decide)).1 (f2 51 (by decide)).1 (f2 52 (by decide)).1,
    ⟨by rw [(f2 30 (by decide)).1]; exact ht1.ltr.n, by rw [(f2 36 (by decide)).1]; exact ht1.ltr.sz, by rw [(f2 37 (by decide)).1]; exact ht1.ltr.srt, by rw [(f2 38 (by decide)).1]; exact ht1.ltr.org, by rw [(f2 39 (by decide)).1]; exact ht1.ltr.gl, by rw [(f2 40 (by decide)).1]; exact ht1.ltr.ad, by rw [(f2 41 (by decide)).1]; exact ht1.ltr.ps, by rw [(f2 42 (by decide)).1]; exact ht1.ltr.sm, by rw [(f2 43 (by decide)).1]; exact ht1.ltr.pr, by rw [(f2 44 (by decide)).1]; exact ht1.ltr.ex⟩,
    ⟨by rw [(f2 45 (by decide)).1]; exact ht1.box.dlv, by rw [(f2 53 (by decide)).1]; exact ht1.box.quo, by rw [(f2 54 (by decide)).1]; exact ht1.box.cnt, by rw [(f2 55 (by decide)).1]; exact ht1.box.lie, by rw [(f2 56 (by decide)).1]; exact ht1.box.grp⟩, by rw [(f2 57 (by decide)).1]; exact ht1.txb⟩
theorem M_earlier {s : Mem} {a b : Nat} (ha : a ≤ LATE) (hb : b ≤ LATE) : f_M_earlier (arI a) (arI b) s = mm_ri (bI (decide (a < b))) s := by
  have hLt : LATE = 2147483647 := rfl
  unfold f_M_earlier
  by_cases c1 : a = LATE
  · rw [if_pos (by unfold arI; rw [if_pos c1]; rfl), decide_eq_false (by omega)]; rfl
  · have e1 : arI a = nI a := by unfold arI; rw [if_neg c1]
    rw [e1, if_neg (by show ¬ nI a = mone; rw [qI_ne_m (by omega)]; exact id)]
    by_cases c2 : b = LATE
    · rw [if_pos (by unfold arI; rw [if_pos c2]; rfl), decide_eq_true (by omega)]; rfl
    · have e2 : arI b = nI b := by unfold arI; rw [if_neg c2]
      rw [e2, if_neg (by show ¬ nI b = mone; rw [qI_ne_m (by omega)]; exact id)]
      by_cases c3 : a < b
      · rw [if_neg (by rw [qI_le (by omega) (by omega)]; omega), decide_eq_true c3]; rfl
      · rw [if_pos (by rw [qI_le (by omega) (by omega)]; omega), decide_eq_false c3]; rfl
section
variable {S : Sto} {sz : Nat → Nat} {b k l : Nat} {oB oK : Bool}
theorem M_set135_lp (hb : b < 12) (hk : k < 12) (hl : l < 16) {kk : Mem → RR} : ∀ (m n j : Nat) (s : Mem), j + m = 4 → m < n → QS s sz S →
    ∃ s', lp_M_settle_135 (nI b) (nI k) (nI l) (bI oB) (bI oK) kk n (nI j) s = kk s' ∧ (∀ i, j ≤ i → i < 4 → s'.1 60 0 (4 * l + i) = bI (oB && S.cp b (4 * l + i)) ∧ s'.1 60 0 (64 + (4 * l + i)) = bI (oK && S.cp k (4 * l + i))) ∧ (∀ x, ¬ (4 * l + j ≤ x ∧ x < 4 * l + 4) → ¬ (64 + 4 * l + j ≤ x ∧ x < 64 + 4 * l + 4) → s'.1 60 0 x = s.1 60 0 x) ∧ (∀ F, F ≠ 60 → s'.1 F = s.1 F) ∧ s'.2 = s.2 := by
  intro m
  induction m with
  | zero =>
    intro n j s hj hn hS
    obtain ⟨n, rfl⟩ : ∃ n', n = n' + 1 := ⟨n - 1, by omega⟩
    unfold lp_M_settle_135
    rw [if_pos (by simp (disch := omega) only [qI_lit, qI_m1, qI_add, qI_mul, qI_le, qI_lt, qI_inj, qI_ne_m, m_ne_nI, m_lt_nI, m_le_nI, qI_lt_m, qI_le_m, qI_sub, qI_div, qI_rem, bI_0, bI_1]; omega)]
    exact ⟨s, rfl, fun i h1 h2 => by omega, fun _ _ _ => rfl, fun _ _ => rfl, rfl⟩
  | succ m ih =>
    intro n j s hj hn hS
    obtain ⟨n, rfl⟩ : ∃ n', n = n' + 1 := ⟨n - 1, by omega⟩
    have e1 : nI j + 1 = nI (j + 1) := by simp (disch := omega) only [qI_lit, qI_m1, qI_add, qI_mul, qI_le, qI_lt, qI_inj, qI_ne_m, m_ne_nI, m_lt_nI, m_le_nI, qI_lt_m, qI_le_m, qI_sub, qI_div, qI_rem, bI_0, bI_1]
    have ea : (4 : Int32) * nI l + nI j = nI (4 * l + j) := by simp only [qI_lit, qI_mul, qI_add]
    have eb : (64 : Int32) + (4 : Int32) * nI l + nI j = nI (64 + (4 * l + j)) := by simp only [qI_lit, qI_mul, qI_add]; congr 1; omega
    -- the second flag
    have second : ∀ s1, QS s1 sz S → ∃ s', (if bI oK = 0 then (mm_sz s1 60 0 128 (nI (64 + (4 * l + j))) 0 fun s215 => lp_M_settle_135 (nI b) (nI k) (nI l) (bI oB) (bI oK) kk n (nI (j + 1)) s215) else (mm_cI (f_M_at (nI k) (nI l) (nI j) s1) fun v203 s203 => mm_ld s203 46 0 768 v203 fun v206 => if v206 = 0 then (mm_sz s203 60 0 128 (nI (64 + (4 * l + j))) 0 fun s215 => lp_M_settle_135 (nI b) (nI k) (nI l) (bI oB) (bI oK) kk n (nI (j + 1)) s215) else (mm_sz s203 60 0 128 (nI (64 + (4 * l + j))) 1 fun s215 => lp_M_settle_135 (nI b) (nI k) (nI l) (bI oB) (bI oK) kk n (nI (j + 1)) s215))) = kk s' ∧ s'.1 60 0 (64 + (4 * l + j)) = bI (oK && S.cp k (4 * l + j)) ∧ (∀ i, j + 1 ≤ i → i < 4 → s'.1 60 0 (4 * l + i) = bI (oB && S.cp b (4 * l + i)) ∧ s'.1 60 0 (64 + (4 * l + i)) = bI (oK && S.cp k (4 * l + i))) ∧ (∀ x, ¬ (4 * l + (j + 1) ≤ x ∧ x < 4 * l + 4) → ¬ (64 + 4 * l + j ≤ x ∧ x < 64 + 4 * l + 4) → s'.1 60 0 x = s1.1 60 0 x) ∧ (∀ F, F ≠ 60 → s'.1 F = s1.1 F) ∧ s'.2 = s1.2 := by
      intro s1 hS1
      have fin : ∀ v : Bool, v = (oK && S.cp k (4 * l + j)) → ∃ s', (mm_sz s1 60 0 128 (nI (64 + (4 * l + j))) (bI v) fun s215 => lp_M_settle_135 (nI b) (nI k) (nI l) (bI oB) (bI oK) kk n (nI (j + 1)) s215) = kk s' ∧ s'.1 60 0 (64 + (4 * l + j)) = bI (oK && S.cp k (4 * l + j)) ∧ (∀ i, j + 1 ≤ i → i < 4 → s'.1 60 0 (4 * l + i) = bI (oB && S.cp b (4 * l + i)) ∧ s'.1 60 0 (64 + (4 * l + i)) = bI (oK && S.cp k (4 * l + i))) ∧ (∀ x, ¬ (4 * l + (j + 1) ≤ x ∧ x < 4 * l + 4) → ¬ (64 + 4 * l + j ≤ x ∧ x < 64 + 4 * l + 4) → s'.1 60 0 x = s1.1 60 0 x) ∧ (∀ F, F ≠ 60 → s'.1 F = s1.1 F) ∧ s'.2 = s1.2 := by
        intro v hv
        rw [sz_okb (by omega) (by omega)]
        obtain ⟨s2, e2, g1, g2, g3, g4⟩ := ih n (j + 1) (mm_wI s1 60 0 (64 + (4 * l + j)) (bI v)) (by omega) (by omega) (hS1.wI (by decide))
        refine ⟨s2, e2, ?_, g1, fun x h1 h2 => ?_, fun F hF => (g3 F hF).trans (wI_ne hF), g4⟩
        · rw [g2 _ (by omega) (by omega), wI_y, hv]
        · rw [g2 x h1 (by omega), wI_n (by omega)]
      cases hK : oK with
      | false =>
        rw [hK] at fin
        rw [if_pos (by decide)]; exact fin false rfl
      | true =>
        rw [hK] at fin
        rw [if_neg (by decide), M_at, cI_ok, ld_ok (by omega) (by omega), show 64 * k + 4 * l + j = 64 * k + (4 * l + j) by omega, hS1.cop k (4 * l + j) hk (by omega)]
        cases hc : S.cp k (4 * l + j) with
        | false => rw [hc] at fin; rw [if_pos (by decide)]; exact fin false rfl
        | true => rw [hc] at fin; rw [if_neg (by decide)]; exact fin true rfl
    have first : ∀ v : Bool, v = (oB && S.cp b (4 * l + j)) → ∃ s', (mm_sz s 60 0 128 (nI (4 * l + j)) (bI v) fun s176 => if bI oK = 0 then (mm_sz s176 60 0 128 (nI (64 + (4 * l + j))) 0 fun s215 => lp_M_settle_135 (nI b) (nI k) (nI l) (bI oB) (bI oK) kk n (nI (j + 1)) s215) else (mm_cI (f_M_at (nI k) (nI l) (nI j) s176) fun v203 s203 => mm_ld s203 46 0 768 v203 fun v206 => if v206 = 0 then (mm_sz s203 60 0 128 (nI (64 + (4 * l + j))) 0 fun s215 => lp_M_settle_135 (nI b) (nI k) (nI l) (bI oB) (bI oK) kk n (nI (j + 1)) s215) else (mm_sz s203 60 0 128 (nI (64 + (4 * l + j))) 1 fun s215 => lp_M_settle_135 (nI b) (nI k) (nI l) (bI oB) (bI oK) kk n (nI (j + 1)) s215))) = kk s' ∧ (∀ i, j ≤ i → i < 4 → s'.1 60 0 (4 * l + i) = bI (oB && S.cp b (4 * l + i)) ∧ s'.1 60 0 (64 + (4 * l + i)) = bI (oK && S.cp k (4 * l + i))) ∧ (∀ x, ¬ (4 * l + j ≤ x ∧ x < 4 * l + 4) → ¬ (64 + 4 * l + j ≤ x ∧ x < 64 + 4 * l + 4) → s'.1 60 0 x = s.1 60 0 x) ∧ (∀ F, F ≠ 60 → s'.1 F = s.1 F) ∧ s'.2 = s.2 := by
      intro v hv
      rw [sz_okb (by omega) (by omega)]
      obtain ⟨s2, e2, g1, g2, g3, g4, g5⟩ := second _ (hS.wI (F := 60) (i := 0) (k := 4 * l + j) (v := bI v) (by decide))
      refine ⟨s2, e2, fun i h1 h2 => ?_, fun x h1 h2 => ?_, fun F hF => (g4 F hF).trans (wI_ne hF), g5⟩
      · by_cases e : i = j
        · rw [e]
          exact ⟨by rw [g3 _ (by omega) (by omega), wI_y, hv], g1⟩
        · exact g2 i (by omega) h2
      · rw [g3 x (by omega) h2, wI_n (by omega)]
    unfold lp_M_settle_135
    rw [if_neg (by simp (disch := omega) only [qI_lit, qI_m1, qI_add, qI_mul, qI_le, qI_lt, qI_inj, qI_ne_m, m_ne_nI, m_lt_nI, m_le_nI, qI_lt_m, qI_le_m, qI_sub, qI_div, qI_rem, bI_0, bI_1]; omega), jn_ok, ea, eb, e1]
    cases hB : oB with
    | false =>
      rw [hB] at first
      rw [if_pos (by decide)]; exact first false rfl
    | true =>
      rw [hB] at first
      rw [if_neg (by decide), M_at, cI_ok, ld_ok (by omega) (by omega), show 64 * b + 4 * l + j = 64 * b + (4 * l + j) by omega, hS.cop b (4 * l + j) hb (by omega)]
      cases hc : S.cp b (4 * l + j) with
      | false => rw [hc] at first; rw [if_pos (by decide)]; exact first false rfl
      | true => rw [hc] at first; rw [if_neg (by decide)]; exact first true rfl
end
section
variable {A : Ab} {b k : Nat}
theorem M_set2_lp (wl : WL A.L) (kn0 : ∀ i p, A.S.kn i (p / 4) ≠ 0 → A.S.cp i p = false) (k2 : ∀ i l, A.S.kn i l ≤ 2) (hb : 8 ≤ b ∧ b < 12) (hk : k < 8) {T : List Hlt} (hT : A.T (A.S.held k) = T) (ok : TabOk T) (hh : A.S.held k ≤ 6) (hnow : A.now ≤ 1000000000) (lK : ∀ g, cmK T k (A.now + 1) g ≤ LATE) (lB : ∀ g, cmB T b A.now g ≤ LATE) {kk : Mem → RR} : ∀ (m n l : Nat) (s : Mem), l + m = A.L.n → m < n → RM s A →
    ∃ s', lp_M_settle_2 (nI b) (nI k) kk n (nI l) s = kk s' ∧ (∀ p, 4 * l ≤ p → p < 4 * A.L.n → s'.1 60 0 p = bI (f0F T A.L A.S b k A.now p) ∧ s'.1 60 0 (64 + p) = bI (f1F T A.L A.S b k A.now p)) ∧ (∀ p, p < 4 * l → s'.1 60 0 p = s.1 60 0 p ∧ s'.1 60 0 (64 + p) = s.1 60 0 (64 + p)) ∧ FrP s s' := by
  have hLt : LATE = 2147483647 := rfl
  have h16 := wl.n16
  intro m
  induction m with
  | zero =>
    intro n l s hl hn hR
    obtain ⟨n, rfl⟩ : ∃ n', n = n' + 1 := ⟨n - 1, by omega⟩
    unfold lp_M_settle_2
    rw [gf_ok, hR.ltr.n, if_pos (by simp (disch := omega) only [qI_lit, qI_m1, qI_add, qI_mul, qI_le, qI_lt, qI_inj, qI_ne_m, m_ne_nI, m_lt_nI, m_le_nI, qI_lt_m, qI_le_m, qI_sub, qI_div, qI_rem, bI_0, bI_1]; omega)]
    exact ⟨s, rfl, fun p h1 h2 => by omega, fun _ _ => ⟨rfl, rfl⟩, FrP.rf⟩
  | succ m ih =>
    intro n l s hl hn hR
    obtain ⟨n, rfl⟩ : ∃ n', n = n' + 1 := ⟨n - 1, by omega⟩
    have hln : l < A.L.n := by omega
    have hg := wl.gl l hln
    have hk2 := k2 b l
    have e1 : nI l + 1 = nI (l + 1) := by simp (disch := omega) only [qI_lit, qI_m1, qI_add, qI_mul, qI_le, qI_lt, qI_inj, qI_ne_m, m_ne_nI, m_lt_nI, m_le_nI, qI_lt_m, qI_le_m, qI_sub, qI_div, qI_rem, bI_0, bI_1]
    obtain ⟨s1, e2, f1⟩ := M_arrival ok (t := A.S.held k) (by omega) (st := k) (to := A.L.gl l) (m := A.now + 1) (by omega) hg (by omega) (by rw [← hT]; exact hR.tab (A.S.held k) (by omega))
    rw [if_pos hk] at e2
    have hR1 := hR.frp (FrP.as_ f1)
    obtain ⟨s2, e3, f2⟩ := M_arrival ok (t := A.S.held k) (by omega) (st := b) (to := A.L.gl l) (m := A.now) hb.2 hg (by omega) (by rw [← hT]; exact hR1.tab (A.S.held k) (by omega))
    rw [if_neg (by omega)] at e3
    have hR2 := hR1.frp (FrP.as_ f2)
    have f12 : FrP s s2 := (FrP.as_ f1).tr (FrP.as_ f2)
    have f60 : s2.1 60 = s.1 60 := (f2 60 (by decide)).1.trans (f1 60 (by decide)).1
    have fin : ∀ v : Bool, (∀ j, j < 4 → (v && A.S.cp b (4 * l + j)) = (oBf T A.L b k A.now l && A.S.cp b (4 * l + j))) → ∃ s', (mm_lp (fun kk => lp_M_settle_135 (nI b) (nI k) (nI l) (bI v) (bI (oKf T A.L b k A.now l)) kk FU ((0 : Int32)) s2) fun s135 => lp_M_settle_2 (nI b) (nI k) kk n (nI (l + 1)) s135) = kk s' ∧ (∀ p, 4 * l ≤ p → p < 4 * A.L.n → s'.1 60 0 p = bI (f0F T A.L A.S b k A.now p) ∧ s'.1 60 0 (64 + p) = bI (f1F T A.L A.S b k A.now p)) ∧ (∀ p, p < 4 * l → s'.1 60 0 p = s.1 60 0 p ∧ s'.1 60 0 (64 + p) = s.1 60 0 (64 + p)) ∧ FrP s s' := by
      intro v hv
      obtain ⟨s3, e4, g1, g2, g3, g4⟩ := M_set135_lp (sz := A.L.sz) (S := A.S) (b := b) (k := k) (l := l) (oB := v) (oK := oKf T A.L b k A.now l) hb.2 (by omega) (by omega) (kk := fun s135 => lp_M_settle_2 (nI b) (nI k) kk n (nI (l + 1)) s135) 4 FU 0 s2 (by omega) (by unfold FU; omega) hR2.sto
      have f3 : FrP s2 s3 := fun F hF => ⟨g3 F (by omega), by rw [g4]⟩
      obtain ⟨s4, e5, k1, k2', k3⟩ := ih n (l + 1) s3 (by omega) (by omega) (hR2.frp f3)
      refine ⟨s4, e4.trans e5, fun p h1 h2 => ?_, fun p hp => ?_, f12.tr (f3.tr k3)⟩
      · by_cases e : p / 4 = l
        · obtain ⟨a1, a2⟩ := k2' p (by omega)
          obtain ⟨b1, b2⟩ := g1 (p - 4 * l) (by omega) (by omega)
          rw [show 4 * l + (p - 4 * l) = p by omega] at b1 b2
          have hv' := hv (p - 4 * l) (by omega)
          rw [show 4 * l + (p - 4 * l) = p by omega] at hv'
          rw [a1, a2, b1, b2]
          unfold f0F f1F
          rw [e, hv']; exact ⟨rfl, rfl⟩
        · exact k1 p (by omega) h2
      · obtain ⟨a1, a2⟩ := k2' p (by omega)
        rw [a1, a2, g2 p (by omega) (by omega), g2 (64 + p) (by omega) (by omega), f60]
        exact ⟨rfl, rfl⟩
    have ekn : (16 : Int32) * nI b + nI l = nI (16 * b + l) := by simp only [qI_lit, qI_mul, qI_add]
    have a1 := lK (A.L.gl l)
    have a2 := lB (A.L.gl l)
    -- the kiosk's side
    have tail : ∀ (y : Int32) (v : Bool), y = bI v → (∀ j, j < 4 → (v && A.S.cp b (4 * l + j)) = (oBf T A.L b k A.now l && A.S.cp b (4 * l + j))) → ∃ s', (mm_ld s2 39 0 16 (nI l) fun v104 => mm_jn (fun (y130 : Int32) s130 => mm_lp (fun kk => lp_M_settle_135 (nI b) (nI k) (nI l) y y130 kk FU ((0 : Int32)) s130) fun s135 => lp_M_settle_2 (nI b) (nI k) kk n (nI (l + 1)) s135) (fun r130 => if v104 = nI k then r130 0 s2 else if arI (cmB T b A.now (A.L.gl l)) = ((-1 : Int32)) then r130 0 s2 else mm_cI (f_M_earlier (arI (cmK T k (A.now + 1) (A.L.gl l))) (arI (cmB T b A.now (A.L.gl l))) s2) fun v119 s119 => if ¬ v119 = 0 then r130 0 s119 else r130 1 s119)) = kk s' ∧ (∀ p, 4 * l ≤ p → p < 4 * A.L.n → s'.1 60 0 p = bI (f0F T A.L A.S b k A.now p) ∧ s'.1 60 0 (64 + p) = bI (f1F T A.L A.S b k A.now p)) ∧ (∀ p, p < 4 * l → s'.1 60 0 p = s.1 60 0 p ∧ s'.1 60 0 (64 + p) = s.1 60 0 (64 + p)) ∧ FrP s s' := by
      intro y v hy hv
      obtain ⟨s', q1, q2⟩ := fin v hv
      refine ⟨s', ?_, q2⟩
      have key : ∀ z, z = bI (oKf T A.L b k A.now l) → (mm_lp (fun kk => lp_M_settle_135 (nI b) (nI k) (nI l) y z kk FU ((0 : Int32)) s2) fun s135 => lp_M_settle_2 (nI b) (nI k) kk n (nI (l + 1)) s135) = kk s' := by
        intro z hz; rw [hy, hz]; exact q1
      rw [ld_ok (by omega) (by omega), hR2.ltr.gl l hln, jn_ok]
      by_cases c1 : A.L.gl l = k
      · rw [if_pos (by rw [c1])]
        exact key 0 (by unfold oKf; rw [decide_eq_false (fun h => h.1 c1)]; rfl)
      · rw [if_neg (by rw [qI_inj (by omega) (by omega)]; exact c1)]
        by_cases c3 : cmB T b A.now (A.L.gl l) = LATE
        · rw [if_pos (by unfold arI; rw [if_pos c3]; rfl)]
          exact key 0 (by unfold oKf; rw [decide_eq_false (fun h => h.2.1 c3)]; rfl)
        · rw [if_neg (by unfold arI; rw [if_neg c3]; show ¬ nI _ = mone; rw [qI_ne_m (by omega)]; exact id), M_earlier a1 a2, cI_ok]
          by_cases c2 : cmK T k (A.now + 1) (A.L.gl l) < cmB T b A.now (A.L.gl l)
          · rw [decide_eq_true c2, if_pos (by decide)]
            exact key 0 (by unfold oKf; rw [decide_eq_false (fun h => h.2.2 c2)]; rfl)
          · rw [decide_eq_false c2, if_neg (by decide)]
            exact key 1 (by unfold oKf; rw [decide_eq_true ⟨c1, c3, c2⟩]; rfl)
    unfold lp_M_settle_2
    rw [gf_ok, hR.ltr.n, if_neg (by simp (disch := omega) only [qI_lit, qI_m1, qI_add, qI_mul, qI_le, qI_lt, qI_inj, qI_ne_m, m_ne_nI, m_lt_nI, m_le_nI, qI_lt_m, qI_le_m, qI_sub, qI_div, qI_rem, bI_0, bI_1]; omega), ld_ok (by omega) (by omega), hR.sto.hel k (by omega), ld_ok (by omega) (by omega), hR.ltr.gl l hln, gf_ok, hR.clk, show nI A.now + 1 = nI (A.now + 1) by simp only [qI_lit, qI_add], e2, cI_ok, ld_ok (by omega) (by omega), hR1.sto.hel k (by omega), ld_ok (by omega) (by omega), hR1.ltr.gl l hln, gf_ok, hR1.clk, e3, cI_ok, ekn, ld_ok (by omega) (by omega), hR2.sto.kno b l hb.2 (by omega), jn_ok, e1]
    by_cases c0 : A.S.kn b l = 0
    · rw [if_neg (by rw [c0]; exact fun h => h rfl), ld_ok (by omega) (by omega), hR2.ltr.gl l hln]
      by_cases c1 : A.L.gl l = k
      · rw [if_pos (by rw [c1])]
        exact tail 1 true rfl (fun j hj => by unfold oBf; rw [decide_eq_true (.inl c1)])
      · rw [if_neg (by rw [qI_inj (by omega) (by omega)]; exact c1), M_earlier a1 a2, cI_ok]
        by_cases c2 : cmK T k (A.now + 1) (A.L.gl l) < cmB T b A.now (A.L.gl l)
        · rw [decide_eq_true c2, if_neg (by decide)]
          exact tail 1 true rfl (fun j hj => by unfold oBf; rw [decide_eq_true (.inr c2)])
        · rw [decide_eq_false c2, if_pos (by decide)]
          exact tail 0 false rfl (fun j hj => by unfold oBf; rw [decide_eq_false (fun h => h.elim c1 c2)])
    · rw [if_pos (by rw [show (0 : Int32) = nI 0 from rfl, qI_inj (by omega) (by omega)]; exact c0)]
      exact tail 0 false rfl (fun j hj => by rw [kn0 b (4 * l + j) (by rw [show (4 * l + j) / 4 = l by omega]; exact c0), Bool.and_false, Bool.and_false])
theorem M_settle {s : Mem} (hR : RM s A) (wl : WL A.L) (kn0 : ∀ i p, A.S.kn i (p / 4) ≠ 0 → A.S.cp i p = false) (k2 : ∀ i l, A.S.kn i l ≤ 2) (hb : 8 ≤ b ∧ b < 12) (hk : k < 8) {T : List Hlt} (hT : A.T (A.S.held k) = T) (ok : TabOk T) (hh : A.S.held k ≤ 6) (hnow : A.now ≤ 1000000000) (lK : ∀ g, cmK T k (A.now + 1) g ≤ LATE) (lB : ∀ g, cmB T b A.now g ≤ LATE) :
    ∃ s', f_M_settle (nI b) (nI k) s = mm_rv s' ∧ (∀ p, p < 4 * A.L.n → s'.1 60 0 p = bI (f0F T A.L A.S b k A.now p) ∧ s'.1 60 0 (64 + p) = bI (f1F T A.L A.S b k A.now p)) ∧ FrP s s' := by
  have h16 := wl.n16
  unfold f_M_settle
  obtain ⟨s', e1, h1, h2, f1⟩ := M_set2_lp wl kn0 k2 hb hk hT ok hh hnow lK lB (kk := fun s2 => mm_rv s2) A.L.n FU 0 s (by omega) (by unfold FU; omega) hR
  exact ⟨s', e1, fun p hp => h1 p (by omega) hp, f1⟩
end

section
variable {t : Nat} {T : List Hlt}
theorem M_passes (ok : TabOk T) (ht : t < 8) {u to : Nat} (hu : u ≤ 2000100000) (hto : to < 8) {s : Mem} {st : Rid} (hT : TabM s t T) (hR : QRd s st) (hB : bndC st (u + 1)) (hl : st.2 to = LATE) :
    ∃ s', f_M_passes (nI t) (nI u) (nI to) s = mm_ri (bI (decide ((stepT T u st).2 to ≠ LATE))) s' ∧ QRd s' (stepT T u st) ∧ FrA s s' := by
  have := ok.2.2
  unfold f_M_passes
  obtain ⟨s', e, h, f⟩ := M_passes_lp (kk := fun x s => mm_rz x s) ok ht hu hto T.length FU 0 s st hT hR hB (by omega) (by unfold FU; omega)
  rw [hl, decide_eq_false (fun h => h rfl)] at e
  show ∃ s', lp_M_passes_9 (nI t) (nI u) (nI to) (fun x s => mm_rz x s) FU (bI false) (24 * nI t) s = _ ∧ _
  rw [show 24 * nI t = nI (24 * t + 0) by simp only [qI_lit, qI_mul]; rfl, e, rz_b]
  exact ⟨s', rfl, h, f⟩
theorem M_arr_lp (ok : TabOk T) (ht : t < 8) {to m first : Nat} (hm : m ≤ 2000000001) (hto : to < 8) {st0 : Rid} (hb0 : bndC st0 first) (hf : first ≤ m + 1) {kk : Mem → RR} : ∀ (D n u : Nat) (s : Mem), m + 20161 - u ≤ D → D < n → first ≤ u → u ≤ LATE → TabM s t T → QRd s (runT T first st0 (min u (m + 20161) - first)) → (runT T first st0 (min u (m + 20161) - first)).2 to = LATE →
    ∃ s', lp_M_arrival_102 (nI t) (nI to) (nI m) kk n (nI u) s = (if (runT T first st0 (m + 20161 - first)).2 to = LATE then kk s' else mm_ri (nI ((runT T first st0 (m + 20161 - first)).2 to - 1)) s') ∧ FrA s s' := by
  have hLt : LATE = 2147483647 := rfl
  intro D
  induction D with
  | zero =>
    intro n u s hD hn h1 h2 hT hR hl
    obtain ⟨n, rfl⟩ : ∃ n', n = n' + 1 := ⟨n - 1, by omega⟩
    unfold lp_M_arrival_102
    rw [show min u (m + 20161) = m + 20161 by omega] at hl
    rw [show nI m + 20160 = nI (m + 20160) by simp (disch := omega) only [qI_lit, qI_m1, qI_add, qI_mul, qI_le, qI_lt, qI_inj, qI_ne_m, m_ne_nI, m_lt_nI, m_le_nI, qI_lt_m, qI_le_m, qI_sub, qI_div, qI_rem, bI_0, bI_1], if_pos (by simp (disch := omega) only [qI_lit, qI_m1, qI_add, qI_mul, qI_le, qI_lt, qI_inj, qI_ne_m, m_ne_nI, m_lt_nI, m_le_nI, qI_lt_m, qI_le_m, qI_sub, qI_div, qI_rem, bI_0, bI_1]; omega)]
    exact ⟨s, by rw [if_pos hl], FrA.rf⟩
  | succ D ih =>
    intro n u s hD hn h1 h2 hT hR hl
    obtain ⟨n, rfl⟩ : ∃ n', n = n' + 1 := ⟨n - 1, by omega⟩
    unfold lp_M_arrival_102
    by_cases c : m + 20160 < u
    · rw [show min u (m + 20161) = m + 20161 by omega] at hl
      rw [show nI m + 20160 = nI (m + 20160) by simp (disch := omega) only [qI_lit, qI_m1, qI_add, qI_mul, qI_le, qI_lt, qI_inj, qI_ne_m, m_ne_nI, m_lt_nI, m_le_nI, qI_lt_m, qI_le_m, qI_sub, qI_div, qI_rem, bI_0, bI_1], if_pos (by simp (disch := omega) only [qI_lit, qI_m1, qI_add, qI_mul, qI_le, qI_lt, qI_inj, qI_ne_m, m_ne_nI, m_lt_nI, m_le_nI, qI_lt_m, qI_le_m, qI_sub, qI_div, qI_rem, bI_0, bI_1]; omega)]
      exact ⟨s, by rw [if_pos hl], FrA.rf⟩
    · rw [show min u (m + 20161) = u by omega] at hl hR
      have hbn : bndC (runT T first st0 (u - first)) (u + 1) := fun k => (run_bnd hb0 (u - first) k).imp id (fun h => by omega)
      obtain ⟨s1, e1, r1, f1⟩ := M_passes ok ht (u := u) (by omega) hto hT hR hbn hl
      have hstep : stepT T u (runT T first st0 (u - first)) = runT T first st0 (u + 1 - first) := by
        rw [show u + 1 - first = (u - first) + 1 by omega]
        show _ = stepT T (first + (u - first)) _
        rw [show first + (u - first) = u by omega]
      rw [hstep] at e1 r1
      rw [show nI m + 20160 = nI (m + 20160) by simp (disch := omega) only [qI_lit, qI_m1, qI_add, qI_mul, qI_le, qI_lt, qI_inj, qI_ne_m, m_ne_nI, m_lt_nI, m_le_nI, qI_lt_m, qI_le_m, qI_sub, qI_div, qI_rem, bI_0, bI_1], if_neg (by simp (disch := omega) only [qI_lit, qI_m1, qI_add, qI_mul, qI_le, qI_lt, qI_inj, qI_ne_m, m_ne_nI, m_lt_nI, m_le_nI, qI_lt_m, qI_le_m, qI_sub, qI_div, qI_rem, bI_0, bI_1]; omega), e1, cI_ok]
      by_cases hc : (runT T first st0 (u + 1 - first)).2 to = LATE
      · rw [decide_eq_false (fun h => h hc), if_pos (by decide), show nI u + 1 = nI (u + 1) by simp (disch := omega) only [qI_lit, qI_m1, qI_add, qI_mul, qI_le, qI_lt, qI_inj, qI_ne_m, m_ne_nI, m_lt_nI, m_le_nI, qI_lt_m, qI_le_m, qI_sub, qI_div, qI_rem, bI_0, bI_1], M_nextStop ok ht (by omega) (hT.fra f1), cI_ok]
        have hge : u + 1 ≤ nxt T (u + 1) := nx_ge T (fun x hx => (ok.1 x hx).2.2.2) LATE (by omega)
        have hle : nxt T (u + 1) ≤ LATE := (nx_le (t := u + 1) T LATE).1
        have hsk : runT T first st0 (min (nxt T (u + 1)) (m + 20161) - first) = runT T first st0 (u + 1 - first) := by
          refine run_skip (by omega) (fun v g1 g2 => ?_)
          exact nxt_skip ok (t := u + 1) (by omega) (by omega)
        obtain ⟨s2, e2, f2⟩ := ih n (nxt T (u + 1)) s1 (by omega) (by omega) (by omega) hle (hT.fra f1) (by rw [hsk]; exact r1) (by rw [hsk]; exact hc)
        exact ⟨s2, e2, f1.tr f2⟩
      · rw [decide_eq_true hc, if_neg (by decide)]
        have hk := run_keep (b := m + 20161 - first) (by omega) hc
        have hbn2 := run_bnd (T := T) hb0 (u + 1 - first) to
        have hval : (runT T first st0 (u + 1 - first)).2 to = u + 1 := by
          rcases hbn2 with h | h
          · exact absurd h hc
          · have hlo : u + 1 ≤ (runT T first st0 (u + 1 - first)).2 to := by
              rw [← hstep]
              rw [← hstep] at hc
              unfold stepT at hc ⊢
              have : ∀ (l : List Hlt) (st : Rid), st.2 to = LATE ∨ u + 1 ≤ st.2 to → u + 1 ≤ (l.foldl (see u) st).2 to ∨ (l.foldl (see u) st).2 to = LATE := by
                intro l
                induction l with
                | nil => intro st h; exact h.elim .inr .inl
                | cons x l ihl =>
                  intro st h
                  refine ihl _ ?_
                  unfold see
                  split
                  · show (if st.2 x.2.1 = LATE then u1 st.2 x.2.1 (u + 1) else st.2) to = LATE ∨ u + 1 ≤ (if st.2 x.2.1 = LATE then u1 st.2 x.2.1 (u + 1) else st.2) to
                    split
                    · by_cases e : to = x.2.1
                      · rw [← e, u1_at]; exact .inr (Nat.le_refl _)
                      · rw [u1_ne e]; exact h
                    · exact h
                  · split
                    · exact h
                    · exact h
              rcases this _ _ (.inl hl) with h' | h'
              · exact h'
              · exact absurd h' hc
            omega
        exact ⟨s1, by rw [if_neg (by rw [hk]; exact hc), hk, hval]; rfl, f1⟩
theorem M_arr11_lp {x1 x2 : Int32} {st m : Nat} (hst : st < 12) {kk : Mem → RR} : ∀ (d n j : Nat) (s : Mem), j + d = 8 → d < n → ∃ s', lp_M_arrival_11 x1 x2 (nI st) (nI m) kk n (nI j) s = kk s' ∧ (∀ k, j ≤ k → k < 8 → s'.1 59 0 k = nI (u1 (fun _ => LATE) st m k)) ∧ (∀ k, k < j → s'.1 59 0 k = s.1 59 0 k) ∧ FrA s s' ∧ s'.1 58 = s.1 58 := by
  intro d
  induction d with
  | zero =>
    intro n j s hp hn
    obtain ⟨n, rfl⟩ : ∃ n', n = n' + 1 := ⟨n - 1, by omega⟩
    unfold lp_M_arrival_11
    rw [if_pos (by simp (disch := omega) only [qI_lit, qI_m1, qI_add, qI_mul, qI_le, qI_lt, qI_inj, qI_ne_m, m_ne_nI, m_lt_nI, m_le_nI, qI_lt_m, qI_le_m, qI_sub, qI_div, qI_rem, bI_0, bI_1]; omega)]
    exact ⟨s, rfl, fun k h1 h2 => by omega, fun _ _ => rfl, FrA.rf, rfl⟩
  | succ d ih =>
    intro n j s hp hn
    obtain ⟨n, rfl⟩ : ∃ n', n = n' + 1 := ⟨n - 1, by omega⟩
    unfold lp_M_arrival_11
    rw [if_neg (by simp (disch := omega) only [qI_lit, qI_m1, qI_add, qI_mul, qI_le, qI_lt, qI_inj, qI_ne_m, m_ne_nI, m_lt_nI, m_le_nI, qI_lt_m, qI_le_m, qI_sub, qI_div, qI_rem, bI_0, bI_1]; omega), st_ok (by omega) (by omega), st_ok (by omega) (by omega), show nI j + 1 = nI (j + 1) by simp (disch := omega) only [qI_lit, qI_m1, qI_add, qI_mul, qI_le, qI_lt, qI_inj, qI_ne_m, m_ne_nI, m_lt_nI, m_le_nI, qI_lt_m, qI_le_m, qI_sub, qI_div, qI_rem, bI_0, bI_1]]
    have key : ∃ s', lp_M_arrival_11 x1 x2 (nI st) (nI m) kk n (nI (j + 1)) (mm_wI s 59 0 j (nI (u1 (fun _ => LATE) st m j))) = kk s' ∧ (∀ k, j ≤ k → k < 8 → s'.1 59 0 k = nI (u1 (fun _ => LATE) st m k)) ∧ (∀ k, k < j → s'.1 59 0 k = s.1 59 0 k) ∧ FrA s s' ∧ s'.1 58 = s.1 58 := by
      obtain ⟨s', e, h1, h2, h3, h4⟩ := ih n (j + 1) (mm_wI s 59 0 j (nI (u1 (fun _ => LATE) st m j))) (by omega) (by omega)
      refine ⟨s', e, fun k g1 g2 => ?_, fun k g1 => ?_, (FrA.wI (.inr rfl)).tr h3, h4.trans (wI_ne (by decide))⟩
      · by_cases ek : k = j
        · rw [ek, h2 j (by omega), wI_y]
        · exact h1 k (by omega) g2
      · rw [h2 k (by omega), wI_n (by omega)]
    by_cases c : j = st
    · rw [if_neg (by simp (disch := omega) only [qI_lit, qI_m1, qI_add, qI_mul, qI_le, qI_lt, qI_inj, qI_ne_m, m_ne_nI, m_lt_nI, m_le_nI, qI_lt_m, qI_le_m, qI_sub, qI_div, qI_rem, bI_0, bI_1]; exact fun h => h c)]
      subst c
      rw [u1_at] at key; exact key
    · rw [if_pos (by simp (disch := omega) only [qI_lit, qI_m1, qI_add, qI_mul, qI_le, qI_lt, qI_inj, qI_ne_m, m_ne_nI, m_lt_nI, m_le_nI, qI_lt_m, qI_le_m, qI_sub, qI_div, qI_rem, bI_0, bI_1]; exact c)]
      rw [u1_ne c] at key; exact key
theorem M_arr47_lp {x1 x2 x4 : Int32} {st : Nat} (hst : st < 12) {kk : Mem → RR} : ∀ (d n j : Nat) (s : Mem), j + d = 4 → d < n → ∃ s', lp_M_arrival_47 x1 x2 (nI st) x4 kk n (nI j) s = kk s' ∧ (∀ k, j ≤ k → k < 4 → s'.1 58 0 k = bI (decide (k + 8 = st))) ∧ (∀ k, k < j → s'.1 58 0 k = s.1 58 0 k) ∧ FrA s s' ∧ s'.1 59 = s.1 59 := by
  intro d
  induction d with
  | zero =>
    intro n j s hp hn
    obtain ⟨n, rfl⟩ : ∃ n', n = n' + 1 := ⟨n - 1, by omega⟩
    unfold lp_M_arrival_47
    rw [if_pos (by simp (disch := omega) only [qI_lit, qI_m1, qI_add, qI_mul, qI_le, qI_lt, qI_inj, qI_ne_m, m_ne_nI, m_lt_nI, m_le_nI, qI_lt_m, qI_le_m, qI_sub, qI_div, qI_rem, bI_0, bI_1]; omega)]
    exact ⟨s, rfl, fun k h1 h2 => by omega, fun _ _ => rfl, FrA.rf, rfl⟩
  | succ d ih =>
    intro n j s hp hn
    obtain ⟨n, rfl⟩ : ∃ n', n = n' + 1 := ⟨n - 1, by omega⟩
    unfold lp_M_arrival_47
    rw [if_neg (by simp (disch := omega) only [qI_lit, qI_m1, qI_add, qI_mul, qI_le, qI_lt, qI_inj, qI_ne_m, m_ne_nI, m_lt_nI, m_le_nI, qI_lt_m, qI_le_m, qI_sub, qI_div, qI_rem, bI_0, bI_1]; omega), show nI j + 1 = nI (j + 1) by simp (disch := omega) only [qI_lit, qI_m1, qI_add, qI_mul, qI_le, qI_lt, qI_inj, qI_ne_m, m_ne_nI, m_lt_nI, m_le_nI, qI_lt_m, qI_le_m, qI_sub, qI_div, qI_rem, bI_0, bI_1], show nI j + 8 = nI (j + 8) by simp (disch := omega) only [qI_lit, qI_m1, qI_add, qI_mul, qI_le, qI_lt, qI_inj, qI_ne_m, m_ne_nI, m_lt_nI, m_le_nI, qI_lt_m, qI_le_m, qI_sub, qI_div, qI_rem, bI_0, bI_1], sz_ok (v := 0) (by omega) (by omega) (.inl rfl), sz_ok (v := 1) (by omega) (by omega) (.inr rfl)]
    have key : ∃ s', lp_M_arrival_47 x1 x2 (nI st) x4 kk n (nI (j + 1)) (mm_wI s 58 0 j (bI (decide (j + 8 = st)))) = kk s' ∧ (∀ k, j ≤ k → k < 4 → s'.1 58 0 k = bI (decide (k + 8 = st))) ∧ (∀ k, k < j → s'.1 58 0 k = s.1 58 0 k) ∧ FrA s s' ∧ s'.1 59 = s.1 59 := by
      obtain ⟨s', e, h1, h2, h3, h4⟩ := ih n (j + 1) (mm_wI s 58 0 j (bI (decide (j + 8 = st)))) (by omega) (by omega)
      refine ⟨s', e, fun k g1 g2 => ?_, fun k g1 => ?_, (FrA.wI (.inl rfl)).tr h3, h4.trans (wI_ne (by decide))⟩
      · by_cases ek : k = j
        · rw [ek, h2 j (by omega), wI_y]
        · exact h1 k (by omega) g2
      · rw [h2 k (by omega), wI_n (by omega)]
    by_cases c : j + 8 = st
    · rw [if_neg (by simp (disch := omega) only [qI_lit, qI_m1, qI_add, qI_mul, qI_le, qI_lt, qI_inj, qI_ne_m, m_ne_nI, m_lt_nI, m_le_nI, qI_lt_m, qI_le_m, qI_sub, qI_div, qI_rem, bI_0, bI_1]; exact fun h => h c)]
      rw [decide_eq_true c] at key; exact key
    · rw [if_pos (by simp (disch := omega) only [qI_lit, qI_m1, qI_add, qI_mul, qI_le, qI_lt, qI_inj, qI_ne_m, m_ne_nI, m_lt_nI, m_le_nI, qI_lt_m, qI_le_m, qI_sub, qI_div, qI_rem, bI_0, bI_1]; exact c)]
      rw [decide_eq_false c] at key; exact key
theorem M_arrival (ok : TabOk T) (ht : t < 8) {st to m : Nat} (hst : st < 12) (hto : to < 8) (hm : m ≤ 2000000001) {s : Mem} (hT : TabM s t T) :
    ∃ s', f_M_arrival (nI t) (nI to) (nI st) (nI m) s = mm_ri (arI (if st < 8 then cmK T st m to else cmB T st m to)) s' ∧ FrA s s' := by
  have hLt : LATE = 2147483647 := rfl
  unfold f_M_arrival
  by_cases c : st = to
  · rw [if_neg (by simp (disch := omega) only [qI_lit, qI_m1, qI_add, qI_mul, qI_le, qI_lt, qI_inj, qI_ne_m, m_ne_nI, m_lt_nI, m_le_nI, qI_lt_m, qI_le_m, qI_sub, qI_div, qI_rem, bI_0, bI_1]; exact fun h => h c), if_pos (by omega)]
    have : cmK T st m to = m := by unfold cmK; rw [if_pos c.symm]
    rw [this]
    exact ⟨s, by unfold arI; rw [if_neg (by omega)], FrA.rf⟩
  rw [if_pos (by simp (disch := omega) only [qI_lit, qI_m1, qI_add, qI_mul, qI_le, qI_lt, qI_inj, qI_ne_m, m_ne_nI, m_lt_nI, m_le_nI, qI_lt_m, qI_le_m, qI_sub, qI_div, qI_rem, bI_0, bI_1]; exact c)]
  obtain ⟨s1, e1, a1, _, f1, b1⟩ := M_arr11_lp (x1 := nI t) (x2 := nI to) (st := st) (m := m) hst (kk := fun s11 => mm_lp (fun kk => lp_M_arrival_47 (nI t) (nI to) (nI st) (nI m) kk FU 0 s11) fun s47 =>
    mm_jn (fun (y97 : Int32) s97 =>
      mm_cI (f_M_nextStop (nI t) y97 s97) fun v97 s97 =>
      mm_lp (fun kk => lp_M_arrival_102 (nI t) (nI to) (nI m) kk FU v97 s97) fun s102 =>
      mm_ri (-1) s102
    ) (fun r97 =>
    if 8 ≤ nI st then (
      r97 (nI m + 1) s47
    ) else (
      r97 (nI m) s47
    ))) 8 FU 0 s rfl (by decide)
  show ∃ s', lp_M_arrival_11 (nI t) (nI to) (nI st) (nI m) _ FU (nI 0) s = _ ∧ _
  rw [e1]
  obtain ⟨s2, e2, a2, _, f2, b2⟩ := M_arr47_lp (x1 := nI t) (x2 := nI to) (x4 := nI m) (st := st) hst (kk := fun s47 =>
    mm_jn (fun (y97 : Int32) s97 =>
      mm_cI (f_M_nextStop (nI t) y97 s97) fun v97 s97 =>
      mm_lp (fun kk => lp_M_arrival_102 (nI t) (nI to) (nI m) kk FU v97 s97) fun s102 =>
      mm_ri (-1) s102
    ) (fun r97 =>
    if 8 ≤ nI st then (
      r97 (nI m + 1) s47
    ) else (
      r97 (nI m) s47
    ))) 4 FU 0 s1 rfl (by decide)
  show ∃ s', lp_M_arrival_47 (nI t) (nI to) (nI st) (nI m) _ FU (nI 0) s1 = _ ∧ _
  rw [e2]
  simp only [mm_jn]
  have f12 := f1.tr f2
  by_cases c8 : 8 ≤ st
  · rw [if_pos (by simp (disch := omega) only [qI_lit, qI_m1, qI_add, qI_mul, qI_le, qI_lt, qI_inj, qI_ne_m, m_ne_nI, m_lt_nI, m_le_nI, qI_lt_m, qI_le_m, qI_sub, qI_div, qI_rem, bI_0, bI_1]; exact c8), if_neg (by omega), show nI m + 1 = nI (m + 1) by simp (disch := omega) only [qI_lit, qI_m1, qI_add, qI_mul, qI_le, qI_lt, qI_inj, qI_ne_m, m_ne_nI, m_lt_nI, m_le_nI, qI_lt_m, qI_le_m, qI_sub, qI_div, qI_rem, bI_0, bI_1], M_nextStop ok ht (by omega) (hT.fra f12), cI_ok]
    have hb0 : bndC (u1 (fun _ => false) (st - 8) true, fun _ => LATE) (m + 1) := fun k => .inl rfl
    have hge : m + 1 ≤ nxt T (m + 1) := nx_ge T (fun x hx => (ok.1 x hx).2.2.2) LATE (by omega)
    have hle : nxt T (m + 1) ≤ LATE := (nx_le (t := m + 1) T LATE).1
    have hsk : runT T (m + 1) (u1 (fun _ => false) (st - 8) true, fun _ => LATE) (min (nxt T (m + 1)) (m + 20161) - (m + 1)) = (u1 (fun _ => false) (st - 8) true, fun _ => LATE) := by
      rw [run_skip (a := 0) (Nat.zero_le _) (fun v g1 g2 => nxt_skip ok (t := m + 1) (by omega) (by omega))]; rfl
    have hR : QRd s2 (u1 (fun _ => false) (st - 8) true, fun _ => LATE) := by
      refine ⟨fun b hb => ?_, fun k hk => ?_⟩
      · rw [a2 b (Nat.zero_le _) hb]
        show _ = bI (u1 (fun _ => false) (st - 8) true b)
        by_cases eb : b = st - 8
        · rw [eb, u1_at, decide_eq_true (by omega)]
        · rw [u1_ne eb, decide_eq_false (by omega)]
      · rw [b2, a1 k (Nat.zero_le _) hk, u1_ne (by omega)]
    obtain ⟨s3, e3, f3⟩ := M_arr_lp (kk := fun s102 => mm_ri (-1) s102) ok ht (m := m) (first := m + 1) hm hto hb0 (Nat.le_refl _) 20160 FU (nxt T (m + 1)) s2 (by omega) (by decide) hge hle (hT.fra f12) (by rw [hsk]; exact hR) (by rw [hsk])
    refine ⟨s3, ?_, f12.tr f3⟩
    refine (show _ = _ from e3).trans ?_
    rw [show m + 20161 - (m + 1) = 20160 by omega]
    have hdef : runT T (m + 1) (u1 (fun _ => false) (st - 8) true, fun _ => LATE) 20160 = runB T st m := rfl
    rw [hdef]
    unfold arI cmB
    by_cases e : (runB T st m).2 to = LATE
    · rw [if_pos e, if_pos e, if_pos rfl]; rfl
    · have hbn := run_bnd (T := T) hb0 20160 to
      rw [hdef] at hbn
      rw [if_neg e, if_neg e, if_neg (by rcases hbn with h | h <;> omega)]
  · rw [if_neg (by simp (disch := omega) only [qI_lit, qI_m1, qI_add, qI_mul, qI_le, qI_lt, qI_inj, qI_ne_m, m_ne_nI, m_lt_nI, m_le_nI, qI_lt_m, qI_le_m, qI_sub, qI_div, qI_rem, bI_0, bI_1]; exact c8), if_pos (by omega), M_nextStop ok ht (by omega) (hT.fra f12), cI_ok]
    have hb0 : bndC (fun _ => false, u1 (fun _ => LATE) st m) m := fun k => by
      show u1 (fun _ => LATE) st m k = LATE ∨ u1 (fun _ => LATE) st m k ≤ m
      by_cases e : k = st
      · rw [e, u1_at]; exact .inr (Nat.le_refl _)
      · rw [u1_ne e]; exact .inl rfl
    have hge : m ≤ nxt T m := nx_ge T (fun x hx => (ok.1 x hx).2.2.2) LATE (by omega)
    have hle : nxt T m ≤ LATE := (nx_le (t := m) T LATE).1
    have hsk : runT T m (fun _ => false, u1 (fun _ => LATE) st m) (min (nxt T m) (m + 20161) - m) = (fun _ => false, u1 (fun _ => LATE) st m) := by
      rw [run_skip (a := 0) (Nat.zero_le _) (fun v g1 g2 => nxt_skip ok (t := m) (by omega) (by omega))]; rfl
    have hR : QRd s2 (fun _ => false, u1 (fun _ => LATE) st m) := by
      refine ⟨fun b hb => ?_, fun k hk => ?_⟩
      · rw [a2 b (Nat.zero_le _) hb, decide_eq_false (by omega)]
      · rw [b2, a1 k (Nat.zero_le _) hk]
    obtain ⟨s3, e3, f3⟩ := M_arr_lp (kk := fun s102 => mm_ri (-1) s102) ok ht (m := m) (first := m) hm hto hb0 (by omega) 20161 FU (nxt T m) s2 (by omega) (by decide) hge hle (hT.fra f12) (by rw [hsk]; exact hR) (by rw [hsk]; show u1 (fun _ => LATE) st m to = LATE; rw [u1_ne (Ne.symm c)])
    refine ⟨s3, ?_, f12.tr f3⟩
    refine (show _ = _ from e3).trans ?_
    rw [show m + 20161 - m = 20161 by omega]
    have hdef : runT T m (fun _ => false, u1 (fun _ => LATE) st m) 20161 = runK T st m := rfl
    rw [hdef]
    unfold arI cmK
    rw [if_neg (Ne.symm c)]
    by_cases e : (runK T st m).2 to = LATE
    · rw [if_pos e, if_pos e, if_pos rfl]; rfl
    · have hbn := run_bnd (T := T) hb0 20161 to
      rw [hdef] at hbn
      rw [if_neg e, if_neg e, if_neg (by rcases hbn with h | h <;> omega)]
end

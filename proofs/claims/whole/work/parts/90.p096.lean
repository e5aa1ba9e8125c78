-- remove
section
variable {s : Mem} {A : Ab} {c : Nat} {x1 x2 x3 x4 : Int32}
theorem B_takeOut_lp {b N : Nat} (hN : N < 16) {kk : Mem → RR} : ∀ (m n q : Nat) (s : Mem), q + m = N → m < n → s.1 16 b 1 = nI N →
    ∃ s', lp_B_takeOut_22 b kk n (nI q) s = kk s' ∧ (∀ i, q ≤ i → i < N → s'.1 17 b i = s.1 17 b (i + 1)) ∧ (∀ F i j, ¬ (F = 17 ∧ i = b ∧ q ≤ j ∧ j < N) → s'.1 F i j = s.1 F i j) ∧ s'.2 = s.2 := by
  intro m
  induction m with
  | zero =>
    intro n q s hq hn hc
    obtain ⟨n, rfl⟩ : ∃ n', n = n' + 1 := ⟨n - 1, by omega⟩
    unfold lp_B_takeOut_22
    rw [gf_ok, hc, if_pos (by simp (disch := omega) only [qI_lit, qI_m1, qI_add, qI_mul, qI_le, qI_lt, qI_inj, qI_ne_m, m_ne_nI, m_lt_nI, m_le_nI, qI_lt_m, qI_le_m, qI_sub, qI_div, qI_rem, bI_0, bI_1]; omega)]
    exact ⟨s, rfl, fun i h1 h2 => by omega, fun _ _ _ _ => rfl, rfl⟩
  | succ m ih =>
    intro n q s hq hn hc
    obtain ⟨n, rfl⟩ : ∃ n', n = n' + 1 := ⟨n - 1, by omega⟩
    unfold lp_B_takeOut_22
    have e1 : nI q + 1 = nI (q + 1) := by simp (disch := omega) only [qI_lit, qI_m1, qI_add, qI_mul, qI_le, qI_lt, qI_inj, qI_ne_m, m_ne_nI, m_lt_nI, m_le_nI, qI_lt_m, qI_le_m, qI_sub, qI_div, qI_rem, bI_0, bI_1]
    rw [gf_ok, hc, if_neg (by simp (disch := omega) only [qI_lit, qI_m1, qI_add, qI_mul, qI_le, qI_lt, qI_inj, qI_ne_m, m_ne_nI, m_lt_nI, m_le_nI, qI_lt_m, qI_le_m, qI_sub, qI_div, qI_rem, bI_0, bI_1]; omega), e1, ld_ok (by omega) (by omega), st_ok (by omega) (by omega)]
    obtain ⟨s1, e2, h1, h2, h3⟩ := ih n (q + 1) (mm_wI s 17 b q (s.1 17 b (q + 1))) (by omega) (by omega) (by rw [wI_ne (by decide)]; exact hc)
    refine ⟨s1, e2, fun i g1 g2 => ?_, fun F i j g => ?_, h3⟩
    · by_cases e : i = q
      · rw [e, h2 _ _ _ (by omega), wI_y]
      · rw [h1 i (by omega) g2, wI_n (by omega)]
    · rw [h2 _ _ _ (by omega), wI_n (by omega)]
theorem M_remove_lp {x5 : Int32} {b N : Nat} (hb : b < 24) (hN : N < 16) {kk : Mem → RR} : ∀ (m n q : Nat) (s : Mem), q + m = N → m < n → s.1 54 0 b = nI N →
    ∃ s', lp_M_remove_80 x1 (nI b) x5 kk n (nI q) s = kk s' ∧ (∀ i, q ≤ i → i < N → s'.1 55 0 (16 * b + i) = s.1 55 0 (16 * b + (i + 1))) ∧ (∀ F i j, ¬ (F = 55 ∧ i = 0 ∧ 16 * b + q ≤ j ∧ j < 16 * b + N) → s'.1 F i j = s.1 F i j) ∧ s'.2 = s.2 := by
  intro m
  induction m with
  | zero =>
    intro n q s hq hn hc
    obtain ⟨n, rfl⟩ : ∃ n', n = n' + 1 := ⟨n - 1, by omega⟩
    unfold lp_M_remove_80
    rw [ld_ok (by omega) (by omega), hc, if_pos (by simp (disch := omega) only [qI_lit, qI_m1, qI_add, qI_mul, qI_le, qI_lt, qI_inj, qI_ne_m, m_ne_nI, m_lt_nI, m_le_nI, qI_lt_m, qI_le_m, qI_sub, qI_div, qI_rem, bI_0, bI_1]; omega)]
    exact ⟨s, rfl, fun i h1 h2 => by omega, fun _ _ _ _ => rfl, rfl⟩
  | succ m ih =>
    intro n q s hq hn hc
    obtain ⟨n, rfl⟩ : ∃ n', n = n' + 1 := ⟨n - 1, by omega⟩
    unfold lp_M_remove_80
    have e1 : nI q + 1 = nI (q + 1) := by simp (disch := omega) only [qI_lit, qI_m1, qI_add, qI_mul, qI_le, qI_lt, qI_inj, qI_ne_m, m_ne_nI, m_lt_nI, m_le_nI, qI_lt_m, qI_le_m, qI_sub, qI_div, qI_rem, bI_0, bI_1]
    have e3 : (16 : Int32) * nI b + nI q = nI (16 * b + q) := by simp only [qI_lit, qI_mul, qI_add]
    have e4 : nI (16 * b + q) + 1 = nI (16 * b + (q + 1)) := by simp only [qI_lit, qI_add]; congr 1
    rw [ld_ok (by omega) (by omega), hc, if_neg (by simp (disch := omega) only [qI_lit, qI_m1, qI_add, qI_mul, qI_le, qI_lt, qI_inj, qI_ne_m, m_ne_nI, m_lt_nI, m_le_nI, qI_lt_m, qI_le_m, qI_sub, qI_div, qI_rem, bI_0, bI_1]; omega), e1, e3, e4, ld_ok (by omega) (by omega), st_ok (by omega) (by omega)]
    obtain ⟨s1, e2, h1, h2, h3⟩ := ih n (q + 1) (mm_wI s 55 0 (16 * b + q) (s.1 55 0 (16 * b + (q + 1)))) (by omega) (by omega) (by rw [wI_ne (by decide)]; exact hc)
    refine ⟨s1, e2, fun i g1 g2 => ?_, fun F i j g => ?_, h3⟩
    · by_cases e : i = q
      · rw [e, h2 _ _ _ (by omega), wI_y]
      · rw [h1 i (by omega) g2, wI_n (by omega)]
    · rw [h2 _ _ _ (by omega), wI_n (by omega)]
def oRem (B : Bxs) (b j : Nat) : Bxs := (mkBxs B.quo (u1 B.lies b ((B.lies b).eraseIdx j)) B.memb B.dl B.dlv)
theorem byS_erase {sz : Nat → Nat} {xs : List Nat} {j : Nat} (hj : j < xs.length) : byS sz (xs.eraseIdx j) + sz xs[j] = byS sz xs := by
  induction xs generalizing j with
  | nil => simp at hj
  | cons x xs ih =>
    cases j with
    | zero => simp [byS]; omega
    | succ j =>
      have := ih (j := j) (by simpa using hj)
      simp only [List.eraseIdx_cons_succ, List.getElem_cons_succ, byS, List.map_cons, List.sum_cons] at *
      omega
theorem er_get {xs : List Nat} {j i x : Nat} (h : (xs.eraseIdx j)[i]? = some x) : (i < j ∧ xs[i]? = some x) ∨ (j ≤ i ∧ xs[i + 1]? = some x) := by
  rw [List.getElem?_eraseIdx] at h
  by_cases e : i < j
  · rw [if_pos e] at h; exact .inl ⟨e, h⟩
  · rw [if_neg e] at h; exact .inr ⟨by omega, h⟩
theorem B_takeOut_n (h : RB s A.L.sz A.B) {b j : Nat} (hb : b < 24) (hl : (A.B.lies b).length ≤ 16) (hj : j < (A.B.lies b).length) {n : Nat} (hn : 16 < n) :
    ∃ s', (mm_lp (fun kk => lp_B_takeOut_22 b kk n (nI j) (mm_wI (mm_wI s 16 b 1 (nI ((A.B.lies b).length - 1))) 16 b 2 (nI (byS A.L.sz (A.B.lies b) - A.L.sz (A.B.lies b)[j])))) fun s22 => mm_rv s22) = mm_rv s' ∧ RB s' A.L.sz (oRem A.B b j) ∧ (∀ F, F ≠ 16 → F ≠ 17 → s'.1 F = s.1 F) ∧ s'.2 = s.2 := by
  have hby := byS_erase (sz := A.L.sz) hj
  obtain ⟨s1, e1, h1, h2, h3⟩ := B_takeOut_lp (b := b) (N := (A.B.lies b).length - 1) (by omega) (kk := fun s22 => mm_rv s22) ((A.B.lies b).length - 1 - j) n j (mm_wI (mm_wI s 16 b 1 (nI ((A.B.lies b).length - 1))) 16 b 2 (nI (byS A.L.sz (A.B.lies b) - A.L.sz (A.B.lies b)[j]))) (by omega) (by omega) (by rw [wI_k (by decide), wI_y])
  refine ⟨s1, e1, ⟨?_, fun b' hb' => ?_, fun b' hb' => ?_, fun b' hb' => ?_, fun b' i x hb' hx => ?_, ?_⟩, fun F g1 g2 => ?_, by rw [h3]; rfl⟩
  · intro g t hg ht
    rw [h2 _ _ _ (by omega), wI_ne (by decide), wI_ne (by decide)]; exact h.grp g t hg ht
  · show _ = nI (u1 A.B.lies b ((A.B.lies b).eraseIdx j) b').length
    rw [h2 _ _ _ (by omega), wI_k (by decide)]
    by_cases e : b' = b
    · subst e; rw [wI_y, u1_at, List.length_eraseIdx, if_pos hj]
    · rw [wI_n (by omega), u1_ne e]; exact h.cnt _ hb'
  · show _ = nI (byS A.L.sz (u1 A.B.lies b ((A.B.lies b).eraseIdx j) b'))
    rw [h2 _ _ _ (by omega)]
    by_cases e : b' = b
    · subst e; rw [wI_y, u1_at]; congr 1; omega
    · rw [wI_n (by omega), wI_n (by omega), u1_ne e]; exact h.byt _ hb'
  · rw [h2 _ _ _ (by omega), wI_k (by decide), wI_k (by decide)]; exact h.quo _ hb'
  · have hx' : (u1 A.B.lies b ((A.B.lies b).eraseIdx j) b')[i]? = some x := hx
    by_cases e : b' = b
    · subst e
      rw [u1_at] at hx'
      rcases er_get hx' with ⟨g1, g2⟩ | ⟨g1, g2⟩
      · rw [h2 _ _ _ (by omega), wI_ne (by decide), wI_ne (by decide)]; exact h.lie _ _ _ hb g2
      · have := (List.getElem?_eq_some_iff.mp g2).1
        rw [h1 i g1 (by omega), wI_ne (by decide), wI_ne (by decide)]; exact h.lie _ _ _ hb g2
    · rw [u1_ne e] at hx'
      rw [h2 _ _ _ (by omega), wI_ne (by decide), wI_ne (by decide)]; exact h.lie _ _ _ hb' hx'
  · rw [h3]; exact h.dlv
  · funext i k
    rw [h2 _ _ _ (by omega), wI_ne g1, wI_ne g1]
theorem B_takeOut (h : RB s A.L.sz A.B) {b j : Nat} (hb : b < 24) (hl : (A.B.lies b).length ≤ 16) (hj : j < (A.B.lies b).length) :
    ∃ s', f_B_takeOut b (nI j) (nI (A.L.sz (A.B.lies b)[j])) s = mm_rv s' ∧ RB s' A.L.sz (oRem A.B b j) ∧ (∀ F, F ≠ 16 → F ≠ 17 → s'.1 F = s.1 F) ∧ s'.2 = s.2 := by
  have hby := byS_erase (sz := A.L.sz) hj
  have := B_takeOut_n h hb hl hj (n := FU) (by unfold FU; omega)
  unfold f_B_takeOut
  rw [gf_ok, h.cnt b hb, pf_ok, show (1 : Int32) = nI 1 from rfl, qI_sub (by omega), gf_ok, wI_k (by decide), h.byt b hb, pf_ok, qI_sub (by omega)]
  exact this
theorem QB_rem_n (h : QB s A.L.sz A.B) {x5 : Int32} {b j : Nat} (hb : b < 24) (hal : ∀ b, (A.B.lies b).length ≤ 16) (hj : j < (A.B.lies b).length) {n : Nat} (hn : 16 < n) {kk : Mem → RR} :
    ∃ s', lp_M_remove_80 x1 (nI b) x5 kk n (nI j) (mm_wI s 54 0 b (nI ((A.B.lies b).length - 1))) = kk s' ∧ QB s' A.L.sz (oRem A.B b j) ∧ (∀ F, F ≠ 54 → F ≠ 55 → s'.1 F = s.1 F) ∧ s'.2 = s.2 := by
  have hl := hal b
  obtain ⟨s1, e1, h1, h2, h3⟩ := M_remove_lp (x1 := x1) (x5 := x5) (b := b) (N := (A.B.lies b).length - 1) hb (by omega) (kk := kk) ((A.B.lies b).length - 1 - j) n j (mm_wI s 54 0 b (nI ((A.B.lies b).length - 1))) (by omega) (by omega) wI_y
  refine ⟨s1, e1, ⟨?_, fun b' hb' => ?_, fun b' hb' => ?_, fun b' i x hb' hx => ?_, ?_⟩, fun F g1 g2 => ?_, by rw [h3]; rfl⟩
  · intro l j' g1 g2 g3
    rw [h2 _ _ _ (by omega), wI_ne (by decide)]; exact h.dlv l j' g1 g2 g3
  · rw [h2 _ _ _ (by omega), wI_ne (by decide)]; exact h.quo _ hb'
  · show _ = nI (u1 A.B.lies b ((A.B.lies b).eraseIdx j) b').length
    rw [h2 _ _ _ (by omega)]
    by_cases e : b' = b
    · subst e; rw [wI_y, u1_at, List.length_eraseIdx, if_pos hj]
    · rw [wI_n (by omega), u1_ne e]; exact h.cnt _ hb'
  · have hx' : (u1 A.B.lies b ((A.B.lies b).eraseIdx j) b')[i]? = some x := hx
    by_cases e : b' = b
    · subst e
      rw [u1_at] at hx'
      rcases er_get hx' with ⟨g1, g2⟩ | ⟨g1, g2⟩
      · rw [h2 _ _ _ (by omega), wI_ne (by decide)]; exact h.lie _ _ _ hb g2
      · have := (List.getElem?_eq_some_iff.mp g2).1
        rw [h1 i g1 (by omega), wI_ne (by decide)]; exact h.lie _ _ _ hb g2
    · rw [u1_ne e] at hx'
      have g9 := (List.getElem?_eq_some_iff.mp hx').1
      have g8 := hal b'
      rw [h2 _ _ _ (by omega), wI_ne (by decide)]; exact h.lie _ _ _ hb' hx'
  · intro g t b' g1 g2 g3
    rw [h2 _ _ _ (by omega), wI_ne (by decide)]; exact h.grp g t b' g1 g2 g3
  · funext i k
    rw [h2 _ _ _ (by omega), wI_ne g1]
theorem call_remove (hX : RX s A) (hW : WF A c) : Agr (f_X_remove x1 x2 x3) (f_M_remove x1 x2 x3) 3 1 3 s A c := by
  have wl := hW.wk.wl
  have wb := hW.wk.wb
  have h16 := wl.n16
  cases h12 : (inR 0 8 x1 && inR 0 3 x2) with
  | false =>
    refine Agr.no hX hW (e := 1) (by decide) (by decide) ?_ fun t ht => ⟨nI 0, mm_wI t 30 0 31 (nI 1), ?_, wI_y, ht.thr, FrN.wI (by decide)⟩
    · unfold f_X_remove
      rw [X_isBox, h12, cI_ok, X_demand]; rfl
    · unfold f_M_remove
      simp only [mm_jn]
      rw [M_isBox, h12, cI_ok, if_neg (by decide), pf_ok, gf_ok, wI_y, if_neg (by decide)]; rfl
  | true =>
    have h12' := h12
    simp only [Bool.and_eq_true] at h12
    obtain ⟨h1, h2⟩ := h12
    obtain ⟨g, _, hg, rfl⟩ := inR_get (by decide) (by decide) h1
    obtain ⟨b, _, hb, rfl⟩ := inR_get (by decide) (by decide) h2
    have hlen : (A.B.lies (3 * g + b)).length ≤ 16 := Nat.le_trans (wb.len _) (cN_le _ _)
    have e3 : (3 : Int32) * nI g + nI b = nI (3 * g + b) := by simp only [qI_lit, qI_mul, qI_add]
    cases h3 : inR 0 (A.B.lies (3 * g + b)).length x3 with
    | false =>
      refine Agr.no hX hW (e := 2) (by decide) (by decide) ?_ fun t ht => ⟨nI 0, mm_wI t 30 0 31 (nI 2), ?_, wI_y, ht.thr, FrN.wI (by decide)⟩
      · unfold f_X_remove
        rw [X_isBox, h12', cI_ok, X_demand, if_pos rfl, tV_ok, al_ok (by omega) (by omega), al_ok (by omega) (by omega), gf_ok, hX.box.cnt _ (by omega), X_demandIndex, h3]; rfl
      · unfold f_M_remove
        simp only [mm_jn]
        rw [M_isBox, h12', cI_ok, if_pos (by decide), e3]
        rcases inR_not (by omega) h3 with h9 | ⟨h9, h8⟩
        · rw [if_pos h9, pf_ok, gf_ok, wI_y, if_neg (by decide)]; rfl
        · rw [if_neg h9, ld_ok (by omega) (by omega), ht.box.cnt _ (by omega), if_neg (nlt_le.mpr h8), pf_ok, gf_ok, wI_y, if_neg (by decide)]; rfl
    | true =>
      have h3' := h3
      obtain ⟨j, _, hj, rfl⟩ := inR_get (by decide) (by omega) h3
      have hx : (A.B.lies (3 * g + b))[j]? = some (A.B.lies (3 * g + b))[j] := List.getElem?_eq_getElem hj
      obtain ⟨hln, hdl⟩ := wb.mem _ _ (List.getElem_mem hj)
      have hs32 := wl.s32 (A.B.lies (3 * g + b))[j]
      have n3 : ¬ nI j < 0 := by rw [show (0 : Int32) = nI 0 from rfl, qI_lt (by omega) (by omega)]; omega
      have e16 : (16 : Int32) * nI (3 * g + b) + nI j = nI (16 * (3 * g + b) + j) := by simp only [qI_lit, qI_mul, qI_add]
      have hwb : WB' A.L (oRem A.B (3 * g + b) j) := by
        refine ⟨fun b' => ?_, fun b' x hx => ?_, wb.q200⟩
        · show (u1 A.B.lies (3 * g + b) ((A.B.lies (3 * g + b)).eraseIdx j) b').length ≤ cN A.B.dl 16
          by_cases e : b' = 3 * g + b
          · rw [e, u1_at, List.length_eraseIdx, if_pos hj]; have := wb.len (3 * g + b); omega
          · rw [u1_ne e]; exact wb.len b'
        · have hx' : x ∈ u1 A.B.lies (3 * g + b) ((A.B.lies (3 * g + b)).eraseIdx j) b' := hx
          by_cases e : b' = 3 * g + b
          · rw [e, u1_at] at hx'; exact wb.mem _ x (List.mem_of_mem_eraseIdx hx')
          · rw [u1_ne e] at hx'; exact wb.mem _ x hx'
      have hW1 := hW.box (B := oRem A.B (3 * g + b) j) hwb rfl
      obtain ⟨s1, e1, hB1, f1, f1'⟩ := B_takeOut hX.box (show 3 * g + b < 24 by omega) hlen hj
      have hX1 := hX.box' (fun F _ h2 h3 => f1 F h2 h3) f1' hB1
      have fc1 : FrC s s1 := fun F hF => ⟨f1 F (by omega) (by omega), by rw [f1']⟩
      obtain ⟨s2, e2, g2, f2⟩ := X_lookAll (g := g) hX1 hW1.wk hW1.ws hg
      refine Agr.yes (by decide) (lkAll_WF (g := g) hW1).mono (s' := s2) (v := nI (A.B.lies (3 * g + b))[j]) ?_ g2 (fc1.tr f2) fun t ht => ?_
      · unfold f_X_remove
        rw [X_isBox, h12', cI_ok, X_demand, if_pos rfl, tV_ok, al_ok (by omega) (by omega), al_ok (by omega) (by omega), gf_ok, hX.box.cnt _ (by omega), X_demandIndex, h3', if_pos rfl, tV_ok, ld_ok (by omega) (by omega), hX.box.lie _ _ _ (by omega) hx, al_ok (by omega) (by omega), gf_ok, hX.ltr.sz _ hln, e1, cV_ok, e2, cV_ok]
      · have ht1 := ht.thr (v := nI 0)
        obtain ⟨t2, et2, hq2, ft2, ft2'⟩ := QB_rem_n (x1 := nI g) (x5 := nI (A.B.lies (3 * g + b))[j]) ht1.box (show 3 * g + b < 24 by omega) (fun b => Nat.le_trans (wb.len b) (cN_le _ _)) hj (n := FU) (by unfold FU; omega) (kk := fun s80 => mm_cV (f_M_lookAll (nI g) s80) fun s128 => mm_ri (nI (A.B.lies (3 * g + b))[j]) s128)
        have ht2 := ht1.box' (fun F h => ft2 F (by omega) (by omega)) hq2
        obtain ⟨t3, et3, hq3, ft3⟩ := M_lookAll (g := g) ht2 hW1.wk hW1.ws hg
        refine ⟨t3, ?_, ?_, hq3, (FrN.wI (by decide)).tr (FrN.tr (b := t2) (fun F hF => ⟨ft2 F (by omega) (by omega), by rw [ft2']⟩) (FrN.ks ft3))⟩
        · unfold f_M_remove
          simp only [mm_jn]
          rw [M_isBox, h12', cI_ok, if_pos (by decide), e3, if_neg n3, ld_ok (by omega) (by omega), ht.box.cnt _ (by omega), if_pos (by rw [qI_lt (by omega) (by omega)]; exact hj), show (0 : Int32) = nI 0 from rfl, pf_ok, gf_ok, wI_y, if_pos rfl, e16, ld_ok (by omega) (by omega), ht1.box.lie _ _ _ (by omega) hx, ld_ok (by omega) (by omega), ht1.box.cnt _ (by omega), show nI (A.B.lies (3 * g + b)).length - 1 = nI ((A.B.lies (3 * g + b)).length - 1) by rw [show (1 : Int32) = nI 1 from rfl, qI_sub (by omega)], st_ok (by omega) (by omega)]
          refine et2.trans ?_
          rw [et3, cV_ok]
        · rw [(ft3 30 (by decide)).1, ft2 30 (by decide) (by decide), wI_y]
end

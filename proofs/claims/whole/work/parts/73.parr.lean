theorem A_fill_lp {F i N : Nat} {x : Int32} (hN : N < 100000) {kk : Mem → RR} : ∀ (m n j : Nat) (s : Mem), j + m = N → m < n → ∃ s', lp_A_fill_5 F i N x (nI N) kk n (nI j) s = kk s' ∧ (∀ k, j ≤ k → k < N → s'.1 F i k = x) ∧ (∀ F' i' k', ¬ (F' = F ∧ i' = i ∧ j ≤ k' ∧ k' < N) → s'.1 F' i' k' = s.1 F' i' k') ∧ s'.2 = s.2 := by
  intro m
  induction m with
  | zero =>
    intro n j s hp hn
    obtain ⟨n, rfl⟩ : ∃ n', n = n' + 1 := ⟨n - 1, by omega⟩
    unfold lp_A_fill_5
    rw [if_pos (by simp (disch := omega) only [qI_lit, qI_m1, qI_add, qI_mul, qI_le, qI_lt, qI_inj, qI_ne_m, m_ne_nI, m_lt_nI, m_le_nI, qI_lt_m, qI_le_m, qI_sub, qI_div, qI_rem, bI_0, bI_1]; omega)]
    exact ⟨s, rfl, fun k h1 h2 => by omega, fun _ _ _ _ => rfl, rfl⟩
  | succ m ih =>
    intro n j s hp hn
    obtain ⟨n, rfl⟩ : ∃ n', n = n' + 1 := ⟨n - 1, by omega⟩
    unfold lp_A_fill_5
    rw [if_neg (by simp (disch := omega) only [qI_lit, qI_m1, qI_add, qI_mul, qI_le, qI_lt, qI_inj, qI_ne_m, m_ne_nI, m_lt_nI, m_le_nI, qI_lt_m, qI_le_m, qI_sub, qI_div, qI_rem, bI_0, bI_1]; omega), st_ok (by omega) (by omega), show nI j + 1 = nI (j + 1) by simp (disch := omega) only [qI_lit, qI_m1, qI_add, qI_mul, qI_le, qI_lt, qI_inj, qI_ne_m, m_ne_nI, m_lt_nI, m_le_nI, qI_lt_m, qI_le_m, qI_sub, qI_div, qI_rem, bI_0, bI_1]]
    obtain ⟨s', e, h1, h2, h3⟩ := ih n (j + 1) (mm_wI s F i j x) (by omega) (by omega)
    refine ⟨s', e, fun k g1 g2 => ?_, fun F' i' k' hn => ?_, h3⟩
    · by_cases ek : k = j
      · rw [ek, h2 _ _ _ (by omega), wI_y]
      · exact h1 k (by omega) g2
    · rw [h2 _ _ _ (by omega), wI_n (by omega)]
theorem A_fill {F i N : Nat} {x : Int32} (hN : N < 100000) (s : Mem) : ∃ s', f_A_fill F i N x s = mm_rv s' ∧ (∀ k, k < N → s'.1 F i k = x) ∧ (∀ F' i' k', ¬ (F' = F ∧ i' = i ∧ k' < N) → s'.1 F' i' k' = s.1 F' i' k') ∧ s'.2 = s.2 := by
  obtain ⟨s', e, h1, h2, h3⟩ := A_fill_lp (F := F) (i := i) (x := x) hN (kk := fun s5 => mm_rv s5) N FU 0 s (by omega) (by unfold FU; omega)
  exact ⟨s', e, fun k hk => h1 k (Nat.zero_le _) hk, fun F' i' k' h => h2 F' i' k' (by omega), h3⟩
theorem A_fillJ_lp {F i N : Nat} {x : Int64} (hN : N < 100000) {kk : Mem → RR} : ∀ (m n j : Nat) (s : Mem), j + m = N → m < n → ∃ s', lp_A_fillJ_6 F i N x (nI N) kk n (nI j) s = kk s' ∧ (∀ k, j ≤ k → k < N → s'.2 F i k = x) ∧ (∀ F' i' k', ¬ (F' = F ∧ i' = i ∧ j ≤ k' ∧ k' < N) → s'.2 F' i' k' = s.2 F' i' k') ∧ s'.1 = s.1 := by
  intro m
  induction m with
  | zero =>
    intro n j s hp hn
    obtain ⟨n, rfl⟩ : ∃ n', n = n' + 1 := ⟨n - 1, by omega⟩
    unfold lp_A_fillJ_6
    rw [if_pos (by simp (disch := omega) only [qI_lit, qI_m1, qI_add, qI_mul, qI_le, qI_lt, qI_inj, qI_ne_m, m_ne_nI, m_lt_nI, m_le_nI, qI_lt_m, qI_le_m, qI_sub, qI_div, qI_rem, bI_0, bI_1]; omega)]
    exact ⟨s, rfl, fun k h1 h2 => by omega, fun _ _ _ _ => rfl, rfl⟩
  | succ m ih =>
    intro n j s hp hn
    obtain ⟨n, rfl⟩ : ∃ n', n = n' + 1 := ⟨n - 1, by omega⟩
    unfold lp_A_fillJ_6
    rw [if_neg (by simp (disch := omega) only [qI_lit, qI_m1, qI_add, qI_mul, qI_le, qI_lt, qI_inj, qI_ne_m, m_ne_nI, m_lt_nI, m_le_nI, qI_lt_m, qI_le_m, qI_sub, qI_div, qI_rem, bI_0, bI_1]; omega), stj_ok (by omega) (by omega), show nI j + 1 = nI (j + 1) by simp (disch := omega) only [qI_lit, qI_m1, qI_add, qI_mul, qI_le, qI_lt, qI_inj, qI_ne_m, m_ne_nI, m_lt_nI, m_le_nI, qI_lt_m, qI_le_m, qI_sub, qI_div, qI_rem, bI_0, bI_1]]
    obtain ⟨s', e, h1, h2, h3⟩ := ih n (j + 1) (mm_wJ s F i j x) (by omega) (by omega)
    refine ⟨s', e, fun k g1 g2 => ?_, fun F' i' k' hn => ?_, h3⟩
    · by_cases ek : k = j
      · rw [ek, h2 _ _ _ (by omega)]; exact if_pos ⟨rfl, rfl, rfl⟩
      · exact h1 k (by omega) g2
    · rw [h2 _ _ _ (by omega)]; exact if_neg (by omega)
theorem A_fillJ {F i N : Nat} {x : Int64} (hN : N < 100000) (s : Mem) : ∃ s', f_A_fillJ F i N x s = mm_rv s' ∧ (∀ k, k < N → s'.2 F i k = x) ∧ (∀ F' i' k', ¬ (F' = F ∧ i' = i ∧ k' < N) → s'.2 F' i' k' = s.2 F' i' k') ∧ s'.1 = s.1 := by
  obtain ⟨s', e, h1, h2, h3⟩ := A_fillJ_lp (F := F) (i := i) (x := x) hN (kk := fun s5 => mm_rv s5) N FU 0 s (by omega) (by unfold FU; omega)
  exact ⟨s', e, fun k hk => h1 k (Nat.zero_le _) hk, fun F' i' k' h => h2 F' i' k' (by omega), h3⟩
def rid0 : Rid := (fun _ => false, fun _ => LATE)
theorem R_clear_lp {i : Nat} {kk : Mem → RR} : ∀ (m n j : Nat) (s : Mem), j + m = 4 → m < n → ∃ s', lp_R_clear_20 i kk n (nI j) s = kk s' ∧ (∀ k, j ≤ k → k < 4 → s'.1 25 i k = nI 0) ∧ (∀ F' i' k', ¬ (F' = 25 ∧ i' = i ∧ j ≤ k' ∧ k' < 4) → s'.1 F' i' k' = s.1 F' i' k') ∧ s'.2 = s.2 := by
  intro m
  induction m with
  | zero =>
    intro n j s hp hn
    obtain ⟨n, rfl⟩ : ∃ n', n = n' + 1 := ⟨n - 1, by omega⟩
    unfold lp_R_clear_20
    rw [if_pos (by simp (disch := omega) only [qI_lit, qI_m1, qI_add, qI_mul, qI_le, qI_lt, qI_inj, qI_ne_m, m_ne_nI, m_lt_nI, m_le_nI, qI_lt_m, qI_le_m, qI_sub, qI_div, qI_rem, bI_0, bI_1]; omega)]
    exact ⟨s, rfl, fun k h1 h2 => by omega, fun _ _ _ _ => rfl, rfl⟩
  | succ m ih =>
    intro n j s hp hn
    obtain ⟨n, rfl⟩ : ∃ n', n = n' + 1 := ⟨n - 1, by omega⟩
    unfold lp_R_clear_20
    rw [if_neg (by simp (disch := omega) only [qI_lit, qI_m1, qI_add, qI_mul, qI_le, qI_lt, qI_inj, qI_ne_m, m_ne_nI, m_lt_nI, m_le_nI, qI_lt_m, qI_le_m, qI_sub, qI_div, qI_rem, bI_0, bI_1]; omega), sz_ok (v := 0) (by omega) (by omega) (.inl rfl), show nI j + 1 = nI (j + 1) by simp (disch := omega) only [qI_lit, qI_m1, qI_add, qI_mul, qI_le, qI_lt, qI_inj, qI_ne_m, m_ne_nI, m_lt_nI, m_le_nI, qI_lt_m, qI_le_m, qI_sub, qI_div, qI_rem, bI_0, bI_1]]
    obtain ⟨s', e, h1, h2, h3⟩ := ih n (j + 1) (mm_wI s 25 i j 0) (by omega) (by omega)
    refine ⟨s', e, fun k g1 g2 => ?_, fun F' i' k' hn => ?_, h3⟩
    · by_cases ek : k = j
      · rw [ek, h2 _ _ _ (by omega), wI_y]; rfl
      · exact h1 k (by omega) g2
    · rw [h2 _ _ _ (by omega), wI_n (by omega)]
theorem R_clear {i : Nat} (s : Mem) : ∃ s', f_R_clear i s = mm_rv s' ∧ RRd s' i 8 0 rid0 ∧ FrR i s s' := by
  unfold f_R_clear
  obtain ⟨s1, e1, a1, b1, c1⟩ := A_fill (F := 23) (i := i) (N := 8) (x := 2147483647) (by decide) s
  rw [e1, cV_ok]
  obtain ⟨s2, e2, a2, b2, c2⟩ := A_fill (F := 24) (i := i) (N := 8) (x := 2147483647) (by decide) s1
  rw [e2, cV_ok]
  obtain ⟨s3, e3, a3, b3, c3⟩ := R_clear_lp (i := i) (kk := fun s20 => mm_rv s20) 4 FU 0 s2 rfl (by decide)
  refine ⟨s3, e3, ⟨fun b hb => ?_, fun k hk => ?_, fun k hk => ?_, fun k => Nat.le_refl _, fun h => absurd h (by decide), by decide⟩, ⟨fun F hF => ?_, fun F j hj => ?_, c3.trans (c2.trans c1)⟩⟩
  · exact a3 b (Nat.zero_le _) hb
  · rw [b3 _ _ _ (by omega), a2 k hk]; rfl
  · rw [b3 _ _ _ (by omega), b2 _ _ _ (by omega), a1 k hk, if_neg (by omega)]; rfl
  · funext a b; rw [b3 _ _ _ (by omega), b2 _ _ _ (by omega), b1 _ _ _ (by omega)]
  · funext b; rw [b3 _ _ _ (by omega), b2 _ _ _ (by omega), b1 _ _ _ (by omega)]
def runK (T : List Hlt) (k m : Nat) : Rid := runT T m (fun _ => false, u1 (fun _ => LATE) k m) 20161
def runB (T : List Hlt) (b m : Nat) : Rid := runT T (m + 1) (u1 (fun _ => false) (b - 8) true, fun _ => LATE) 20160
def cmK (T : List Hlt) (k m g : Nat) : Nat := if g = k then m else if (runK T k m).2 g = LATE then LATE else (runK T k m).2 g - 1
def cmB (T : List Hlt) (b m g : Nat) : Nat := if (runB T b m).2 g = LATE then LATE else (runB T b m).2 g - 1
section
variable {i t : Nat} {L T : List Hlt} {s : Mem}
theorem R_startK (hT : TabC s t L) (hs : SrtT L) (hp : L.Perm T) (ok : TabOk T) {k m : Nat} (hk : k < 8) (hm : m ≤ 2000000001) :
    ∃ s', f_R_startAtKiosk i t (nI k) (nI m) s = mm_rv s' ∧ (∀ g, g < 8 → s'.1 23 i g = nI (cmK T k m g)) ∧ (∀ g, (runK T k m).2 g ≤ LATE) ∧ FrR i s s' := by
  have hLt : LATE = 2147483647 := rfl
  unfold f_R_startAtKiosk
  obtain ⟨s1, e1, h1, f1⟩ := R_clear (i := i) s
  rw [e1, cV_ok, st_ok hk (by omega), st_ok hk (by omega), show nI m + 20160 = nI (m + 20160) by simp (disch := omega) only [qI_lit, qI_m1, qI_add, qI_mul, qI_le, qI_lt, qI_inj, qI_ne_m, m_ne_nI, m_lt_nI, m_le_nI, qI_lt_m, qI_le_m, qI_sub, qI_div, qI_rem, bI_0, bI_1]]
  have h2 : RRd (mm_wI (mm_wI s1 23 i k (nI m)) 24 i k (nI m)) i k m (fun _ => false, u1 (fun _ => LATE) k m) := by
    refine ⟨h1.ab, fun k' hk' => ?_, fun k' hk' => ?_, fun k' => ?_, fun _ => ?_, by omega⟩
    · show _ = nI (u1 (fun _ => LATE) k m k')
      by_cases e : k' = k
      · rw [e, wI_y, u1_at]
      · rw [wI_n (by omega), wI_ne (by decide), u1_ne e]; exact h1.lv k' hk'
    · show _ = nI (if k' = k then m else if u1 (fun _ => LATE) k m k' = LATE then LATE else u1 (fun _ => LATE) k m k' - 1)
      rw [wI_ne (by decide)]
      by_cases e : k' = k
      · rw [e, wI_y, if_pos rfl]
      · rw [wI_n (by omega), if_neg e, u1_ne e, if_pos rfl, h1.cm k' hk', if_neg (by omega)]; rfl
    · show u1 (fun _ => LATE) k m k' ≤ LATE
      by_cases e : k' = k
      · rw [e, u1_at]; omega
      · rw [u1_ne e]; exact Nat.le_refl _
    · show u1 (fun _ => LATE) k m k ≠ LATE
      rw [u1_at]; omega
  have f2 : FrR i s1 (mm_wI (mm_wI s1 23 i k (nI m)) 24 i k (nI m)) := (FrR.wI (by omega)).tr (FrR.wI (by omega))
  obtain ⟨s3, e3, h3, f3⟩ := R_goBy (first := m) (last := m + 20160) ((hT.frr f1).frr f2) hs hp ok h2 (by omega) (by omega) (by omega)
  rw [show m + 20160 + 1 - m = 20161 by omega] at h3
  rw [e3, cV_ok]
  exact ⟨s3, rfl, h3.cm, h3.le, f1.tr (f2.tr f3)⟩
theorem R_startB (hT : TabC s t L) (hs : SrtT L) (hp : L.Perm T) (ok : TabOk T) {b m : Nat} (hb : 8 ≤ b ∧ b < 12) (hm : m ≤ 2000000001) :
    ∃ s', f_R_startOnBus i t (nI b) (nI m) s = mm_rv s' ∧ (∀ g, g < 8 → s'.1 23 i g = nI (cmB T b m g)) ∧ (∀ g, (runB T b m).2 g ≤ LATE) ∧ FrR i s s' := by
  have hLt : LATE = 2147483647 := rfl
  unfold f_R_startOnBus
  obtain ⟨s1, e1, h1, f1⟩ := R_clear (i := i) s
  rw [e1, cV_ok, show nI b - 8 = nI (b - 8) by simp (disch := omega) only [qI_lit, qI_m1, qI_add, qI_mul, qI_le, qI_lt, qI_inj, qI_ne_m, m_ne_nI, m_lt_nI, m_le_nI, qI_lt_m, qI_le_m, qI_sub, qI_div, qI_rem, bI_0, bI_1], show (1 : Int32) = bI true from rfl, sz_okb (by omega) (by omega), show bI true = (1 : Int32) from rfl, show nI m + 20160 = nI (m + 20160) by simp (disch := omega) only [qI_lit, qI_m1, qI_add, qI_mul, qI_le, qI_lt, qI_inj, qI_ne_m, m_ne_nI, m_lt_nI, m_le_nI, qI_lt_m, qI_le_m, qI_sub, qI_div, qI_rem, bI_0, bI_1], show nI m + 1 = nI (m + 1) by simp (disch := omega) only [qI_lit, qI_m1, qI_add, qI_mul, qI_le, qI_lt, qI_inj, qI_ne_m, m_ne_nI, m_lt_nI, m_le_nI, qI_lt_m, qI_le_m, qI_sub, qI_div, qI_rem, bI_0, bI_1]]
  have h2 : RRd (mm_wI s1 25 i (b - 8) 1) i 8 0 (u1 (fun _ => false) (b - 8) true, fun _ => LATE) := by
    refine ⟨fun b' hb' => ?_, h1.lv, h1.cm, h1.le, h1.s0, h1.m0⟩
    show _ = bI (u1 (fun _ => false) (b - 8) true b')
    by_cases e : b' = b - 8
    · rw [e, wI_y, u1_at]; rfl
    · rw [wI_n (by omega), u1_ne e]; exact h1.ab b' hb'
  have f2 : FrR i s1 (mm_wI s1 25 i (b - 8) 1) := FrR.wI (by omega)
  obtain ⟨s3, e3, h3, f3⟩ := R_goBy (first := m + 1) (last := m + 20160) ((hT.frr f1).frr f2) hs hp ok h2 (by omega) (by omega) (by omega)
  rw [show m + 20160 + 1 - (m + 1) = 20160 by omega] at h3
  rw [e3, cV_ok]
  refine ⟨s3, rfl, fun g hg => ?_, h3.le, f1.tr (f2.tr f3)⟩
  rw [h3.cm g hg, if_neg (by omega)]; rfl
def arI (v : Nat) : Int32 := if v = LATE then mone else nI v
theorem X_arrival (hT : TabC s t L) (hs : SrtT L) (hp : L.Perm T) (ok : TabOk T) {k m g : Nat} (ht : t < 7) (hk : k < 8) (hg : g < 8) (hm : m ≤ 2000000000) :
    ∃ s', f_X_arrival (nI t) (nI k) (nI g) (nI m) s = mm_ri (arI (cmK T k m g)) s' ∧ FrR 0 s s' := by
  have hLt : LATE = 2147483647 := rfl
  unfold f_X_arrival
  obtain ⟨s1, e1, h1, hle, f1⟩ := R_startK (i := 0) hT hs hp ok hk (m := m) (by omega)
  rw [al_ok ht (by omega), e1, cV_ok, ld_ok hg (by omega), h1 g hg]
  have hb : cmK T k m g ≤ LATE := by
    unfold cmK
    have := hle g
    split
    · omega
    · split <;> omega
  unfold arI
  by_cases e : cmK T k m g = LATE
  · rw [if_neg (by rw [e]; exact fun h => h rfl), if_pos e]
    exact ⟨s1, rfl, f1⟩
  · rw [if_pos (by simp (disch := omega) only [qI_lit, qI_m1, qI_add, qI_mul, qI_le, qI_lt, qI_inj, qI_ne_m, m_ne_nI, m_lt_nI, m_le_nI, qI_lt_m, qI_le_m, qI_sub, qI_div, qI_rem, bI_0, bI_1]; omega), if_neg e]
    exact ⟨s1, rfl, f1⟩
end

def oTim (S : Sto) (b k : Nat) : Sto := (mkSto S.cp S.vb S.hp S.nw S.kn S.bt (u1 (u1 S.held b (max (S.held b) (S.held k))) k (max (S.held b) (S.held k))) S.ea S.rf)
theorem mx_ok {a b : Nat} (ha : a < 2147483648) (hb : b < 2147483648) : mm_max (nI a) (nI b) = nI (max a b) := by
  unfold mm_max
  by_cases h : a < b
  · rw [if_pos (by rw [qI_lt ha hb]; exact h), Nat.max_eq_right (by omega)]
  · rw [if_neg (by rw [qI_lt ha hb]; exact h), Nat.max_eq_left (by omega)]
section
variable {s : Mem} {sz : Nat → Nat} {S : Sto} {L : Lts} {B : Bxs} {b k H now : Nat}
theorem X_shareT (h : RS s sz S) (hb : b < 12) (hk : k < 12) (hh : ∀ i, S.held i ≤ 6) : ∃ s', f_X_shareTimetable b k s = mm_rv s' ∧ RS s' sz (oTim S b k) ∧ FrS s s' := by
  have h1 := hh b
  have h2 := hh k
  unfold f_X_shareTimetable
  rw [gf_ok, h.hel b hb, gf_ok, h.hel k hk, mx_ok (by omega) (by omega), pf_ok, pf_ok]
  exact ⟨_, rfl, RS_held (RS_held h), (FrS.wI (by omega)).tr (FrS.wI (by omega))⟩
theorem X_shr_lp (hb : b < 12) (hb8 : ¬ b < 8) (hk : k < 8) (wl : WL L) (hS0 : WS L S H) (hH : H < 1000000) {kk : Mem → RR} : ∀ (m n p : Nat) (s : Mem), p + m = 4 * L.n → m < n → s.1 0 0 7 = nI L.n → RS s sz (shrN S b k p) → ∃ s', lp_X_shareNews_2 b k kk n (nI p) s = kk s' ∧ RS s' sz (shrN S b k (4 * L.n)) ∧ FrS s s' := by
  have h16 := wl.n16
  intro m
  induction m with
  | zero =>
    intro n p s hp hn h7 h
    obtain ⟨n, rfl⟩ : ∃ n', n = n' + 1 := ⟨n - 1, by omega⟩
    unfold lp_X_shareNews_2
    rw [gf_ok, h7, show nI L.n * 4 = nI (L.n * 4) by simp only [qI_lit, qI_mul], if_pos (by rw [qI_le (by omega) (by omega)]; omega)]
    rw [show p = 4 * L.n by omega] at h
    exact ⟨s, rfl, h, FrS.rf⟩
  | succ m ih =>
    intro n p s hp hn h7 h
    obtain ⟨n, rfl⟩ : ∃ n', n = n' + 1 := ⟨n - 1, by omega⟩
    obtain ⟨ws, _⟩ := shrN_ok hS0 hb8 hk p (by omega)
    have e1 : nI p + 1 = nI (p + 1) := by simp (disch := omega) only [qI_lit, qI_m1, qI_add, qI_mul, qI_le, qI_lt, qI_inj, qI_ne_m, m_ne_nI, m_lt_nI, m_le_nI, qI_lt_m, qI_le_m, qI_sub, qI_div, qI_rem, bI_0, bI_1]
    have g1 := ws.nb b p
    have g2 := ws.nb k p
    unfold lp_X_shareNews_2
    obtain ⟨s1, e2, h1, f1⟩ := S_learnHops (t := max ((shrN S b k p).nw b p) ((shrN S b k p).nw k p)) h hb (show p < 64 by omega) (by omega)
    obtain ⟨s2, e3, h2, f2⟩ := S_learnHops (t := max ((shrN S b k p).nw b p) ((shrN S b k p).nw k p)) h1 (show k < 12 by omega) (show p < 64 by omega) (by omega)
    rw [gf_ok, h7, show nI L.n * 4 = nI (L.n * 4) by simp only [qI_lit, qI_mul], if_neg (by rw [qI_le (by omega) (by omega)]; omega), ld_ok (by omega) (by omega), h.new b p hb (by omega), ld_ok (by omega) (by omega), h.new k p (by omega) (by omega), mx_ok (by omega) (by omega), e2, cV_ok, e3, cV_ok, e1]
    obtain ⟨s3, e4, h3, f3⟩ := ih n (p + 1) s2 (by omega) (by omega) (by rw [(f2 0 (by omega)).1, (f1 0 (by omega)).1]; exact h7) h2
    exact ⟨s3, e4, h3, f1.tr (f2.tr f3)⟩
theorem X_firmer {x y : Nat} (hx : x ≤ 2) (hy : y ≤ 2) : f_X_firmer (nI x) (nI y) s = mm_ri (nI (frm x y)) s := by
  have : x = 0 ∨ x = 1 ∨ x = 2 := by omega
  have : y = 0 ∨ y = 1 ∨ y = 2 := by omega
  rcases ‹x = 0 ∨ x = 1 ∨ x = 2› with rfl | rfl | rfl <;> rcases ‹y = 0 ∨ y = 1 ∨ y = 2› with rfl | rfl | rfl <;> rfl
theorem X_lrn_lp (hb : b < 12) (hk : k < 8) (wk : WK L S B) (hS0 : WS L S H) {kk : Mem → RR} : ∀ (m n l : Nat) (s : Mem), l + m = L.n → m < n → s.1 0 0 7 = nI L.n → RS s sz (lrnN S b k l) → ∃ s', lp_X_shareNews_51 b k kk n (nI l) s = kk s' ∧ RS s' sz (lrnN S b k L.n) ∧ FrS s s' := by
  have h16 := wk.wl.n16
  intro m
  induction m with
  | zero =>
    intro n p s hp hn h7 h
    obtain ⟨n, rfl⟩ : ∃ n', n = n' + 1 := ⟨n - 1, by omega⟩
    unfold lp_X_shareNews_51
    rw [gf_ok, h7, if_pos (by simp (disch := omega) only [qI_lit, qI_m1, qI_add, qI_mul, qI_le, qI_lt, qI_inj, qI_ne_m, m_ne_nI, m_lt_nI, m_le_nI, qI_lt_m, qI_le_m, qI_sub, qI_div, qI_rem, bI_0, bI_1]; omega)]
    rw [show p = L.n by omega] at h
    exact ⟨s, rfl, h, FrS.rf⟩
  | succ m ih =>
    intro n l s hp hn h7 h
    obtain ⟨n, rfl⟩ : ∃ n', n = n' + 1 := ⟨n - 1, by omega⟩
    obtain ⟨_, ws, _⟩ := lrnN_ok (b := b) (k := k) wk hS0 l (by omega)
    have e1 : nI l + 1 = nI (l + 1) := by simp (disch := omega) only [qI_lit, qI_m1, qI_add, qI_mul, qI_le, qI_lt, qI_inj, qI_ne_m, m_ne_nI, m_lt_nI, m_le_nI, qI_lt_m, qI_le_m, qI_sub, qI_div, qI_rem, bI_0, bI_1]
    have g1 := ws.k2 b l
    have g2 := ws.k2 k l
    have g3 := frm_2 ((lrnN S b k l).kn b l) ((lrnN S b k l).kn k l)
    unfold lp_X_shareNews_51
    obtain ⟨s1, e2, h1, f1⟩ := S_learnOf (w := frm ((lrnN S b k l).kn b l) ((lrnN S b k l).kn k l)) h hb (show l < 16 by omega) (by omega)
    obtain ⟨s2, e3, h2, f2⟩ := S_learnOf (w := frm ((lrnN S b k l).kn b l) ((lrnN S b k l).kn k l)) h1 (show k < 12 by omega) (show l < 16 by omega) (by omega)
    rw [gf_ok, h7, if_neg (by simp (disch := omega) only [qI_lit, qI_m1, qI_add, qI_mul, qI_le, qI_lt, qI_inj, qI_ne_m, m_ne_nI, m_lt_nI, m_le_nI, qI_lt_m, qI_le_m, qI_sub, qI_div, qI_rem, bI_0, bI_1]; omega), ld_ok (by omega) (by omega), h.kno b l hb (by omega), ld_ok (by omega) (by omega), h.kno k l (by omega) (by omega), X_firmer g1 g2, cI_ok, e2, cV_ok, e3, cV_ok, e1]
    obtain ⟨s3, e4, h3, f3⟩ := ih n (l + 1) s2 (by omega) (by omega) (by rw [(f2 0 (by omega)).1, (f1 0 (by omega)).1]; exact h7) h2
    exact ⟨s3, e4, h3, f1.tr (f2.tr f3)⟩
def oShare (L : Lts) (S : Sto) (b k : Nat) : Sto := lrnN (shrN (oTim S b k) b k (4 * L.n)) b k L.n
-- the reference's
theorem M_shr_lp (hb : b < 12) (hb8 : ¬ b < 8) (hk : k < 8) (wl : WL L) (hS0 : WS L S H) (hH : H < 1000000) {kk : Mem → RR} : ∀ (m n p : Nat) (s : Mem), p + m = 64 → m < n → QS s sz (shrN S b k p) → ∃ s', lp_M_exchangeNews_48 (nI b) (nI k) kk n (nI p) s = kk s' ∧ QS s' sz (shrN S b k 64) ∧ FrQ s s' := by
  have h16 := wl.n16
  intro m
  induction m with
  | zero =>
    intro n p s hp hn h
    obtain ⟨n, rfl⟩ : ∃ n', n = n' + 1 := ⟨n - 1, by omega⟩
    unfold lp_M_exchangeNews_48
    rw [if_pos (by simp (disch := omega) only [qI_lit, qI_m1, qI_add, qI_mul, qI_le, qI_lt, qI_inj, qI_ne_m, m_ne_nI, m_lt_nI, m_le_nI, qI_lt_m, qI_le_m, qI_sub, qI_div, qI_rem, bI_0, bI_1]; omega)]
    rw [show p = 64 by omega] at h
    exact ⟨s, rfl, h, FrQ.rf⟩
  | succ m ih =>
    intro n p s hp hn h
    obtain ⟨n, rfl⟩ : ∃ n', n = n' + 1 := ⟨n - 1, by omega⟩
    have ws : WS L (shrN S b k p) H := by
      by_cases e : p ≤ 4 * L.n
      · exact (shrN_ok hS0 hb8 hk p e).1
      · have := shrN_far hS0 hb8 hk (p - 4 * L.n)
        rw [show 4 * L.n + (p - 4 * L.n) = p by omega] at this
        rw [this]; exact (shrN_ok hS0 hb8 hk _ (Nat.le_refl _)).1
    have e1 : nI p + 1 = nI (p + 1) := by simp (disch := omega) only [qI_lit, qI_m1, qI_add, qI_mul, qI_le, qI_lt, qI_inj, qI_ne_m, m_ne_nI, m_lt_nI, m_le_nI, qI_lt_m, qI_le_m, qI_sub, qI_div, qI_rem, bI_0, bI_1]
    have g1 := ws.nb b p
    have g2 := ws.nb k p
    have eb : (64 : Int32) * nI b + nI p = nI (64 * b + p) := by simp only [qI_lit, qI_mul, qI_add]
    have ek : (64 : Int32) * nI k + nI p = nI (64 * k + p) := by simp only [qI_lit, qI_mul, qI_add]
    obtain ⟨s1, e2, h1, f1⟩ := M_hear (t := max ((shrN S b k p).nw b p) ((shrN S b k p).nw k p)) h hb (show p < 64 by omega) (by omega)
    obtain ⟨s2, e3, h2, f2⟩ := M_hear (t := max ((shrN S b k p).nw b p) ((shrN S b k p).nw k p)) h1 (show k < 12 by omega) (show p < 64 by omega) (by omega)
    obtain ⟨s3, e4, h3, f3⟩ := ih n (p + 1) s2 (by omega) (by omega) h2
    refine ⟨s3, ?_, h3, f1.tr (f2.tr f3)⟩
    unfold lp_M_exchangeNews_48
    rw [if_neg (by simp (disch := omega) only [qI_lit, qI_m1, qI_add, qI_mul, qI_le, qI_lt, qI_inj, qI_ne_m, m_ne_nI, m_lt_nI, m_le_nI, qI_lt_m, qI_le_m, qI_sub, qI_div, qI_rem, bI_0, bI_1]; omega), eb, ek, ld_ok (by omega) (by omega), h.new b p hb (by omega), ld_ok (by omega) (by omega), h.new k p (by omega) (by omega), jn_ok, e1]
    by_cases c : (shrN S b k p).nw b p ≤ (shrN S b k p).nw k p
    · rw [Nat.max_eq_right c] at e2 e3
      rw [if_pos (by rw [qI_le (by omega) (by omega)]; exact c)]
      show (mm_cV (f_M_hear (nI (64 * b + p)) (nI ((shrN S b k p).nw k p)) s) fun s105 => if nI ((shrN S b k p).nw b p) ≤ nI ((shrN S b k p).nw k p) then _ else _) = _
      rw [e2, cV_ok, if_pos (by rw [qI_le (by omega) (by omega)]; exact c), e3, cV_ok]; exact e4
    · rw [Nat.max_eq_left (by omega)] at e2 e3
      rw [if_neg (by rw [qI_le (by omega) (by omega)]; exact c)]
      show (mm_cV (f_M_hear (nI (64 * b + p)) (nI ((shrN S b k p).nw b p)) s) fun s105 => if nI ((shrN S b k p).nw b p) ≤ nI ((shrN S b k p).nw k p) then _ else _) = _
      rw [e2, cV_ok, if_neg (by rw [qI_le (by omega) (by omega)]; exact c), e3, cV_ok]; exact e4
theorem M_frm {x y : Nat} (hx : x ≤ 2) (hy : y ≤ 2) (R : Int32 → Mem → RR) : (if nI x = (1 : Int32) then R 1 s else if ¬ nI y = (1 : Int32) then (if nI x = (2 : Int32) then R 2 s else if ¬ nI y = (2 : Int32) then R 0 s else R 2 s) else R 1 s) = R (nI (frm x y)) s := by
  have : x = 0 ∨ x = 1 ∨ x = 2 := by omega
  have : y = 0 ∨ y = 1 ∨ y = 2 := by omega
  rcases ‹x = 0 ∨ x = 1 ∨ x = 2› with rfl | rfl | rfl <;> rcases ‹y = 0 ∨ y = 1 ∨ y = 2› with rfl | rfl | rfl <;> rfl
theorem M_lrn_lp (hb : b < 12) (hk : k < 8) (wk : WK L S B) (hS0 : WS L S H) {kk : Mem → RR} : ∀ (m n l : Nat) (s : Mem), l + m = L.n → m < n → s.1 30 0 7 = nI L.n → QS s sz (lrnN S b k l) → ∃ s', lp_M_exchangeNews_142 (nI b) (nI k) kk n (nI l) s = kk s' ∧ QS s' sz (lrnN S b k L.n) ∧ FrQ s s' := by
  have h16 := wk.wl.n16
  intro m
  induction m with
  | zero =>
    intro n p s hp hn h7 h
    obtain ⟨n, rfl⟩ : ∃ n', n = n' + 1 := ⟨n - 1, by omega⟩
    unfold lp_M_exchangeNews_142
    rw [gf_ok, h7, if_pos (by simp (disch := omega) only [qI_lit, qI_m1, qI_add, qI_mul, qI_le, qI_lt, qI_inj, qI_ne_m, m_ne_nI, m_lt_nI, m_le_nI, qI_lt_m, qI_le_m, qI_sub, qI_div, qI_rem, bI_0, bI_1]; omega)]
    rw [show p = L.n by omega] at h
    exact ⟨s, rfl, h, FrQ.rf⟩
  | succ m ih =>
    intro n l s hp hn h7 h
    obtain ⟨n, rfl⟩ : ∃ n', n = n' + 1 := ⟨n - 1, by omega⟩
    obtain ⟨_, ws, _⟩ := lrnN_ok (b := b) (k := k) wk hS0 l (by omega)
    have e1 : nI l + 1 = nI (l + 1) := by simp (disch := omega) only [qI_lit, qI_m1, qI_add, qI_mul, qI_le, qI_lt, qI_inj, qI_ne_m, m_ne_nI, m_lt_nI, m_le_nI, qI_lt_m, qI_le_m, qI_sub, qI_div, qI_rem, bI_0, bI_1]
    have g1 := ws.k2 b l
    have g2 := ws.k2 k l
    have g3 := frm_2 ((lrnN S b k l).kn b l) ((lrnN S b k l).kn k l)
    have eb : (16 : Int32) * nI b + nI l = nI (16 * b + l) := by simp only [qI_lit, qI_mul, qI_add]
    have ek : (16 : Int32) * nI k + nI l = nI (16 * k + l) := by simp only [qI_lit, qI_mul, qI_add]
    obtain ⟨s1, e2, h1, f1⟩ := M_learn (w := frm ((lrnN S b k l).kn b l) ((lrnN S b k l).kn k l)) h hb (show l < 16 by omega) (by omega)
    obtain ⟨s2, e3, h2, f2⟩ := M_learn (w := frm ((lrnN S b k l).kn b l) ((lrnN S b k l).kn k l)) h1 (show k < 12 by omega) (show l < 16 by omega) (by omega)
    obtain ⟨s3, e4, h3, f3⟩ := ih n (l + 1) s2 (by omega) (by omega) (by rw [(f2 30 (by omega)).1, (f1 30 (by omega)).1]; exact h7) h2
    refine ⟨s3, ?_, h3, f1.tr (f2.tr f3)⟩
    unfold lp_M_exchangeNews_142
    rw [gf_ok, h7, if_neg (by simp (disch := omega) only [qI_lit, qI_m1, qI_add, qI_mul, qI_le, qI_lt, qI_inj, qI_ne_m, m_ne_nI, m_lt_nI, m_le_nI, qI_lt_m, qI_le_m, qI_sub, qI_div, qI_rem, bI_0, bI_1]; omega), eb, ek, ld_ok (by omega) (by omega), h.kno b l hb (by omega), ld_ok (by omega) (by omega), h.kno k l (by omega) (by omega), jn_ok, e1]
    refine (M_frm (s := s) g1 g2 (fun y212 s212 => mm_cV (f_M_learn (nI b) (nI l) y212 s212) fun s220 => mm_cV (f_M_learn (nI k) (nI l) y212 s220) fun s229 => lp_M_exchangeNews_142 (nI b) (nI k) kk n (nI (l + 1)) s229)).trans ?_
    show (mm_cV (f_M_learn (nI b) (nI l) (nI (frm ((lrnN S b k l).kn b l) ((lrnN S b k l).kn k l))) s) fun s220 => mm_cV (f_M_learn (nI k) (nI l) (nI (frm ((lrnN S b k l).kn b l) ((lrnN S b k l).kn k l))) s220) fun s229 => lp_M_exchangeNews_142 (nI b) (nI k) kk n (nI (l + 1)) s229) = _
    rw [e2, cV_ok, e3, cV_ok]; exact e4
theorem WS_tim (h : WS L S H) : WS L (oTim S b k) H := ⟨h.cap, h.cpn, h.nhp, h.par, h.kn0, h.k2, h.knn, h.nwn, h.vbn, h.hb, h.nb⟩
theorem WK_kn {S' : Sto} (h : WK L S B) (e : S'.kn = S.kn) : WK L S' B := ⟨h.wl, h.wb, fun l hl => by rw [e]; exact h.dlk l hl, h.dln⟩
theorem shrN_kn : ∀ m, (shrN S b k m).kn = S.kn ∧ (shrN S b k m).held = S.held := by
  intro m
  induction m with
  | zero => exact ⟨rfl, rfl⟩
  | succ m ih => exact ih
theorem X_share (h : RS s sz S) (hL : RL s now L) (hb : b < 12) (hb8 : ¬ b < 8) (hk : k < 8) (wk : WK L S B) (ws : WS L S H) (hH : H < 1000000) (hh : ∀ i, S.held i ≤ 6) {K : Mem → RR} : ∃ s', (mm_cV (f_X_shareTimetable b k s) fun s12 => mm_cV (f_X_shareNews b k s12) K) = K s' ∧ RS s' sz (oShare L S b k) ∧ FrS s s' := by
  have h16 := wk.wl.n16
  obtain ⟨s1, e1, h1, f1⟩ := X_shareT h hb (show k < 12 by omega) hh
  have ws1 := WS_tim (b := b) (k := k) ws
  obtain ⟨s2, e2, h2, f2⟩ := X_shr_lp (sz := sz) hb hb8 hk wk.wl ws1 hH (kk := fun s2 => mm_lp (fun kk => lp_X_shareNews_51 b k kk FU ((0 : Int32)) s2) fun s51 => mm_rv s51) (4 * L.n) FU 0 s1 (by omega) (by unfold FU; omega) (by rw [(f1 0 (by omega)).1]; exact hL.n) h1
  obtain ⟨ws2, _⟩ := shrN_ok ws1 hb8 hk (4 * L.n) (Nat.le_refl _)
  have wk2 : WK L (shrN (oTim S b k) b k (4 * L.n)) B := WK_kn wk (shrN_kn (S := oTim S b k) _).1
  obtain ⟨s3, e3, h3, f3⟩ := X_lrn_lp (sz := sz) hb hk wk2 ws2 (kk := fun s51 => mm_rv s51) L.n FU 0 s2 (by omega) (by unfold FU; omega) (by rw [(f2 0 (by omega)).1, (f1 0 (by omega)).1]; exact hL.n) h2
  refine ⟨s3, ?_, h3, f1.tr (f2.tr f3)⟩
  rw [e1, cV_ok]
  unfold f_X_shareNews
  rw [show mm_lp (fun kk => lp_X_shareNews_2 b k kk FU ((0 : Int32)) s1) (fun s2 => mm_lp (fun kk => lp_X_shareNews_51 b k kk FU ((0 : Int32)) s2) fun s51 => mm_rv s51) = mm_rv s3 from e2.trans e3, cV_ok]
theorem M_share (h : QS s sz S) (hL : QL s L) (hb : b < 12) (hb8 : ¬ b < 8) (hk : k < 8) (wk : WK L S B) (ws : WS L S H) (hH : H < 1000000) (hh : ∀ i, S.held i ≤ 6) : ∃ s', f_M_exchangeNews (nI b) (nI k) s = mm_rv s' ∧ QS s' sz (oShare L S b k) ∧ FrQ s s' := by
  have h16 := wk.wl.n16
  have g1 := hh b
  have g2 := hh k
  have ws1 := WS_tim (b := b) (k := k) ws
  have h1 : QS (mm_wI (mm_wI s 35 0 b (nI (max (S.held b) (S.held k)))) 35 0 k (nI (max (S.held b) (S.held k)))) sz (oTim S b k) := QS_held (QS_held h)
  have f1 : FrQ s (mm_wI (mm_wI s 35 0 b (nI (max (S.held b) (S.held k)))) 35 0 k (nI (max (S.held b) (S.held k)))) := (FrQ.wI (by omega)).tr (FrQ.wI (by omega))
  obtain ⟨s2, e2, h2, f2⟩ := M_shr_lp (sz := sz) hb hb8 hk wk.wl ws1 hH (kk := fun s48 => mm_lp (fun kk => lp_M_exchangeNews_142 (nI b) (nI k) kk FU ((0 : Int32)) s48) fun s142 => mm_rv s142) 64 FU 0 _ (by omega) (by unfold FU; omega) h1
  obtain ⟨ws2, _⟩ := shrN_ok ws1 hb8 hk (4 * L.n) (Nat.le_refl _)
  have e64 := shrN_far ws1 hb8 hk (64 - 4 * L.n)
  rw [show 4 * L.n + (64 - 4 * L.n) = 64 by omega] at e64
  rw [e64] at h2
  have wk2 : WK L (shrN (oTim S b k) b k (4 * L.n)) B := WK_kn wk (shrN_kn (S := oTim S b k) _).1
  obtain ⟨s3, e3, h3, f3⟩ := M_lrn_lp (sz := sz) hb hk wk2 ws2 (kk := fun s142 => mm_rv s142) L.n FU 0 s2 (by omega) (by unfold FU; omega) (by rw [(f2 30 (by omega)).1, (f1 30 (by omega)).1]; exact hL.n) h2
  refine ⟨s3, ?_, h3, f1.tr (f2.tr f3)⟩
  have key : ∀ y, y = nI (max (S.held b) (S.held k)) → (mm_st s 35 0 12 (nI b) y fun s37 => mm_st s37 35 0 12 (nI k) y fun s44 => mm_lp (fun kk => lp_M_exchangeNews_48 (nI b) (nI k) kk FU ((0 : Int32)) s44) fun s48 => mm_lp (fun kk => lp_M_exchangeNews_142 (nI b) (nI k) kk FU ((0 : Int32)) s48) fun s142 => mm_rv s142) = mm_rv s3 := by
    intro y hy
    rw [hy, st_ok hb (by omega), st_ok (by omega) (by omega)]
    exact e2.trans e3
  unfold f_M_exchangeNews
  rw [ld_ok hb (by omega), h.hel b hb, ld_ok (by omega) (by omega), h.hel k (by omega), jn_ok]
  by_cases c : S.held b ≤ S.held k
  · rw [if_pos (by rw [qI_le (by omega) (by omega)]; exact c), ld_ok (by omega) (by omega), h.hel k (by omega)]
    exact key _ (by rw [Nat.max_eq_right c])
  · rw [if_neg (by rw [qI_le (by omega) (by omega)]; exact c), ld_ok (by omega) (by omega), h.hel b hb]
    exact key _ (by rw [Nat.max_eq_left (by omega)])
/-- what the sharing leaves -/
theorem share_ok (wk : WK L S B) (ws : WS L S H) (hb8 : ¬ b < 8) (hk : k < 8) : WK L (oShare L S b k) B ∧ WS L (oShare L S b k) H ∧ (∀ l, (oShare L S b k).kn b l = (oShare L S b k).kn k l) ∧ (∀ p, ¬ ((oShare L S b k).cp b p = true ∧ (oShare L S b k).cp k p = true)) ∧ (oShare L S b k).held = (oTim S b k).held := by
  have ws1 := WS_tim (b := b) (k := k) ws
  obtain ⟨ws2, nb⟩ := shrN_ok ws1 hb8 hk (4 * L.n) (Nat.le_refl _)
  have wk2 : WK L (shrN (oTim S b k) b k (4 * L.n)) B := WK_kn wk (shrN_kn (S := oTim S b k) _).1
  obtain ⟨h1, h2, h3, h4, h5, h6⟩ := lrnN_ok (b := b) (k := k) wk2 ws2 L.n (Nat.le_refl _)
  refine ⟨h1, h2, fun l => ?_, fun p ⟨g1, g2⟩ => ?_, h5.trans (shrN_kn (S := oTim S b k) _).2⟩
  · by_cases e : l < L.n
    · exact h3 l e
    · have a1 : (oShare L S b k).kn b l = 0 := h2.knn b l (by omega)
      have a2 : (oShare L S b k).kn k l = 0 := h2.knn k l (by omega)
      rw [a1, a2]
  · have g3 := (h2.cpn b p g1).1
    exact nb p (by omega) ⟨h4 b p g1, h4 k p g2⟩
end

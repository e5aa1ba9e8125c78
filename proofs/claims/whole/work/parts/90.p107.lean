def DJ (L : Lts) (a b j l : Nat) : Bool := decide (l < j) && due L a b l
theorem DJ_skip {L : Lts} {a b j : Nat} (h : due L a b j = false) : DJ L a b (j + 1) = DJ L a b j := by
  funext l; unfold DJ
  by_cases e : l = j
  · rw [e, h, Bool.and_false, Bool.and_false]
  · rw [show decide (l < j + 1) = decide (l < j) from decide_eq_decide.mpr (by omega)]
theorem DJ_step {L : Lts} {a b j : Nat} (h : due L a b j = true) : DJ L a b (j + 1) = u1 (DJ L a b j) j true := by
  funext l
  by_cases e : l = j
  · rw [e, u1_at]; unfold DJ; rw [h, decide_eq_true (Nat.lt_succ_self _)]; rfl
  · rw [u1_ne e]; unfold DJ
    rw [show decide (l < j + 1) = decide (l < j) from decide_eq_decide.mpr (by omega)]
theorem DJ_at {L : Lts} {a b j : Nat} : DJ L a b j j = false := by unfold DJ; rw [decide_eq_false (Nat.lt_irrefl _)]; rfl
theorem DJ_0 {L : Lts} {a b l : Nat} : DJ L a b 0 l = false := by unfold DJ; rw [decide_eq_false (Nat.not_lt_zero _)]; rfl
theorem DJ_n {L : Lts} {a b : Nat} : DJ L a b L.n = due L a b := by
  funext l; unfold DJ due
  by_cases e : l < L.n
  · rw [decide_eq_true e, Bool.true_and]
  · rw [decide_eq_false e, Bool.false_and, decide_eq_false (fun h => e h.1)]
def RLe (s : Mem) (L : Lts) (ov : Nat → Bool) (ex : Nat → Bool) : Prop := (s.1 0 0 7 = nI L.n) ∧ (∀ l, l < L.n → s.1 19 l 0 = nI (L.org l)) ∧ (∀ l, l < L.n → s.1 19 l 1 = nI (L.gl l)) ∧ (∀ l, l < L.n → s.1 19 l 2 = nI (L.ad l)) ∧ (∀ l, l < L.n → s.1 19 l 3 = nI (L.srt l)) ∧ (∀ l, l < L.n → s.1 19 l 4 = nI (L.ps l)) ∧ (∀ l, l < L.n → s.1 19 l 5 = L.pr l) ∧ (∀ l, l < L.n → s.1 19 l 6 = nI (L.sz l)) ∧ (∀ l, l < L.n → s.1 19 l 7 = L.sm l) ∧ (∀ l, l < 16 → s.1 19 l 8 = bI (ov l)) ∧ (∀ l, l < 16 → s.1 19 l 9 = bI (ex l))
theorem RLe.n {s : Mem} {L : Lts} {ov : Nat → Bool} {ex : Nat → Bool} (h : RLe s L ov ex) : s.1 0 0 7 = nI L.n := h.1
theorem RLe.org {s : Mem} {L : Lts} {ov : Nat → Bool} {ex : Nat → Bool} (h : RLe s L ov ex) : ∀ l, l < L.n → s.1 19 l 0 = nI (L.org l) := h.2.1
theorem RLe.gl {s : Mem} {L : Lts} {ov : Nat → Bool} {ex : Nat → Bool} (h : RLe s L ov ex) : ∀ l, l < L.n → s.1 19 l 1 = nI (L.gl l) := h.2.2.1
theorem RLe.ad {s : Mem} {L : Lts} {ov : Nat → Bool} {ex : Nat → Bool} (h : RLe s L ov ex) : ∀ l, l < L.n → s.1 19 l 2 = nI (L.ad l) := h.2.2.2.1
theorem RLe.srt {s : Mem} {L : Lts} {ov : Nat → Bool} {ex : Nat → Bool} (h : RLe s L ov ex) : ∀ l, l < L.n → s.1 19 l 3 = nI (L.srt l) := h.2.2.2.2.1
theorem RLe.ps {s : Mem} {L : Lts} {ov : Nat → Bool} {ex : Nat → Bool} (h : RLe s L ov ex) : ∀ l, l < L.n → s.1 19 l 4 = nI (L.ps l) := h.2.2.2.2.2.1
theorem RLe.pr {s : Mem} {L : Lts} {ov : Nat → Bool} {ex : Nat → Bool} (h : RLe s L ov ex) : ∀ l, l < L.n → s.1 19 l 5 = L.pr l := h.2.2.2.2.2.2.1
theorem RLe.sz {s : Mem} {L : Lts} {ov : Nat → Bool} {ex : Nat → Bool} (h : RLe s L ov ex) : ∀ l, l < L.n → s.1 19 l 6 = nI (L.sz l) := h.2.2.2.2.2.2.2.1
theorem RLe.sm {s : Mem} {L : Lts} {ov : Nat → Bool} {ex : Nat → Bool} (h : RLe s L ov ex) : ∀ l, l < L.n → s.1 19 l 7 = L.sm l := h.2.2.2.2.2.2.2.2.1
theorem RLe.ov {s : Mem} {L : Lts} {ov : Nat → Bool} {ex : Nat → Bool} (h : RLe s L ov ex) : ∀ l, l < 16 → s.1 19 l 8 = bI (ov l) := h.2.2.2.2.2.2.2.2.2.1
theorem RLe.ex {s : Mem} {L : Lts} {ov : Nat → Bool} {ex : Nat → Bool} (h : RLe s L ov ex) : ∀ l, l < 16 → s.1 19 l 9 = bI (ex l) := h.2.2.2.2.2.2.2.2.2.2
theorem RLe.fr {s s' : Mem} {L : Lts} {ov ex : Nat → Bool} (h : RLe s L ov ex) (e0 : s'.1 0 = s.1 0) (e19 : s'.1 19 = s.1 19) : RLe s' L ov ex :=
  ⟨by rw [e0]; exact h.n, by rw [e19]; exact h.org, by rw [e19]; exact h.gl, by rw [e19]; exact h.ad, by rw [e19]; exact h.srt, by rw [e19]; exact h.ps, by rw [e19]; exact h.pr, by rw [e19]; exact h.sz, by rw [e19]; exact h.sm, by rw [e19]; exact h.ov, by rw [e19]; exact h.ex⟩
theorem RLe.wov {s : Mem} {L : Lts} {ov ex : Nat → Bool} (h : RLe s L ov ex) {j : Nat} {v : Bool} : RLe (mm_wI s 19 j 8 (bI v)) L (u1 ov j v) ex := by
  refine ⟨h.n, fun l hl => (wI_k (by decide)).trans (h.org l hl), fun l hl => (wI_k (by decide)).trans (h.gl l hl), fun l hl => (wI_k (by decide)).trans (h.ad l hl), fun l hl => (wI_k (by decide)).trans (h.srt l hl), fun l hl => (wI_k (by decide)).trans (h.ps l hl), fun l hl => (wI_k (by decide)).trans (h.pr l hl), fun l hl => (wI_k (by decide)).trans (h.sz l hl), fun l hl => (wI_k (by decide)).trans (h.sm l hl), fun l hl => ?_, fun l hl => (wI_k (by decide)).trans (h.ex l hl)⟩
  by_cases e : l = j
  · rw [e, wI_y, u1_at]
  · rw [wI_n (by omega), u1_ne e]; exact h.ov l hl
theorem RLe.wex {s : Mem} {L : Lts} {ov ex : Nat → Bool} (h : RLe s L ov ex) {j : Nat} {v : Bool} : RLe (mm_wI s 19 j 9 (bI v)) L ov (u1 ex j v) := by
  refine ⟨h.n, fun l hl => (wI_k (by decide)).trans (h.org l hl), fun l hl => (wI_k (by decide)).trans (h.gl l hl), fun l hl => (wI_k (by decide)).trans (h.ad l hl), fun l hl => (wI_k (by decide)).trans (h.srt l hl), fun l hl => (wI_k (by decide)).trans (h.ps l hl), fun l hl => (wI_k (by decide)).trans (h.pr l hl), fun l hl => (wI_k (by decide)).trans (h.sz l hl), fun l hl => (wI_k (by decide)).trans (h.sm l hl), fun l hl => (wI_k (by decide)).trans (h.ov l hl), fun l hl => ?_⟩
  by_cases e : l = j
  · rw [e, wI_y, u1_at]
  · rw [wI_n (by omega), u1_ne e]; exact h.ex l hl
def ovJ (L : Lts) (a b j l : Nat) : Bool := decide (l < L.n ∧ L.ps l + 7200 ≤ (if l < j then b else a))
def FrE (s s' : Mem) : Prop := ∀ F, (F ≠ 19 ∧ (F < 7 ∨ 11 < F)) → s'.1 F = s.1 F ∧ s'.2 F = s.2 F
theorem FrE.rf {s : Mem} : FrE s s := fun _ _ => ⟨rfl, rfl⟩
theorem FrE.tr {a b c : Mem} (h : FrE a b) (g : FrE b c) : FrE a c := fun F hF => ⟨(g F hF).1.trans (h F hF).1, (g F hF).2.trans (h F hF).2⟩
theorem FrE.ss {a b : Mem} (h : FrS a b) : FrE a b := fun F hF => h F hF.2
theorem FrE.wI {s : Mem} {i k : Nat} {v : Int32} : FrE s (mm_wI s 19 i k v) := fun F' hF => ⟨wI_ne hF.1, rfl⟩
theorem pz_ok {s : Mem} {F i q : Nat} {b : Bool} {k : Mem → RR} : mm_pz s F i q (bI b) k = k (mm_wI s F i q (bI b)) := pz_okb
section
variable {L : Lts} {S : Sto} {sz : Nat → Nat} {a b : Nat}
theorem X_expire_lp (wl : WL L) (hk2 : ∀ i l, S.kn i l ≤ 2) (hab : a ≤ b) (hb : b < 2000000000) (hps : ∀ l, l < L.n → L.ps l ≤ a) {kk : Mem → RR} : ∀ (m n j : Nat) (s : Mem), j + m = L.n → m < n → s.1 0 0 0 = nI b → RS s sz (expS L S (DJ L a b j)) → RLe s L (ovJ L a b j) (expL L S (DJ L a b j)).ex →
    ∃ s', lp_X_expireWhatIsDue_2 kk n (nI j) s = kk s' ∧ RS s' sz (expS L S (due L a b)) ∧ RLe s' L (ovJ L a b L.n) (expL L S (due L a b)).ex ∧ FrE s s' := by
  have h16 := wl.n16
  intro m
  induction m with
  | zero =>
    intro n j s hj hn hc hS hL
    obtain ⟨n, rfl⟩ : ∃ n', n = n' + 1 := ⟨n - 1, by omega⟩
    have ej : j = L.n := by omega
    subst ej
    rw [DJ_n] at hS hL
    unfold lp_X_expireWhatIsDue_2
    rw [gf_ok, hL.n, if_pos (by simp (disch := omega) only [qI_lit, qI_m1, qI_add, qI_mul, qI_le, qI_lt, qI_inj, qI_ne_m, m_ne_nI, m_lt_nI, m_le_nI, qI_lt_m, qI_le_m, qI_sub, qI_div, qI_rem, bI_0, bI_1]; omega)]
    exact ⟨s, rfl, hS, hL, FrE.rf⟩
  | succ m ih =>
    intro n j s hj hn hc hS hL
    obtain ⟨n, rfl⟩ : ∃ n', n = n' + 1 := ⟨n - 1, by omega⟩
    have hjn : j < L.n := by omega
    have hpj := hps j hjn
    have hg := wl.gl j hjn
    have e1 : nI j + 1 = nI (j + 1) := by simp (disch := omega) only [qI_lit, qI_m1, qI_add, qI_mul, qI_le, qI_lt, qI_inj, qI_ne_m, m_ne_nI, m_lt_nI, m_le_nI, qI_lt_m, qI_le_m, qI_sub, qI_div, qI_rem, bI_0, bI_1]
    have ov_same : (L.ps j + 7200 ≤ a ↔ L.ps j + 7200 ≤ b) → ovJ L a b (j + 1) = ovJ L a b j := by
      intro h; funext l; unfold ovJ
      by_cases e : l = j
      · rw [e, if_pos (by omega), if_neg (by omega)]
        exact decide_eq_decide.mpr (by omega)
      · by_cases e2 : l < j
        · rw [if_pos (by omega), if_pos e2]
        · rw [if_neg (by omega), if_neg e2]
    have skip : due L a b j = false → (L.ps j + 7200 ≤ a ↔ L.ps j + 7200 ≤ b) → ∃ s', lp_X_expireWhatIsDue_2 kk n (nI (j + 1)) s = kk s' ∧ RS s' sz (expS L S (due L a b)) ∧ RLe s' L (ovJ L a b L.n) (expL L S (due L a b)).ex ∧ FrE s s' := by
      intro h1 h2
      refine ih n (j + 1) s (by omega) (by omega) hc ?_ ?_
      · rw [DJ_skip h1]; exact hS
      · rw [DJ_skip h1, ov_same h2]; exact hL
    unfold lp_X_expireWhatIsDue_2
    rw [gf_ok, hL.n, if_neg (by simp (disch := omega) only [qI_lit, qI_m1, qI_add, qI_mul, qI_le, qI_lt, qI_inj, qI_ne_m, m_ne_nI, m_lt_nI, m_le_nI, qI_lt_m, qI_le_m, qI_sub, qI_div, qI_rem, bI_0, bI_1]; omega), al_ok (by omega) (by omega), gf_ok, hL.ov j (by omega), e1]
    by_cases c1 : L.ps j + 7200 ≤ a
    · have : ovJ L a b j j = true := by unfold ovJ; rw [if_neg (by omega)]; exact decide_eq_true ⟨hjn, c1⟩
      rw [this, if_pos (by decide)]
      exact skip (by unfold due; exact decide_eq_false (by omega)) (by omega)
    · have : ovJ L a b j j = false := by unfold ovJ; rw [if_neg (by omega)]; exact decide_eq_false (by omega)
      rw [this, if_neg (by decide), gf_ok, hc, gf_ok, hL.ps j hjn, qI_sub (by omega)]
      by_cases c2 : b - L.ps j < 7200
      · rw [if_pos (by rw [show (7200 : Int32) = nI 7200 from rfl, qI_lt (by omega) (by omega)]; exact c2)]
        exact skip (by unfold due; exact decide_eq_false (by omega)) (by omega)
      · have hd : due L a b j = true := by unfold due; exact decide_eq_true ⟨hjn, by omega, by omega⟩
        have hL1 := hL.wov (j := j) (v := true)
        have hkn := hk2 (L.gl j) j
        rw [if_neg (by rw [show (7200 : Int32) = nI 7200 from rfl, qI_lt (by omega) (by omega)]; exact c2), show (1 : Int32) = bI true from rfl, pz_ok, gf_ok, hL1.gl j hjn, al_ok (by omega) (by omega), ld_ok (by omega) (by omega), wI_ne (by decide), hS.kno _ _ (by omega) (by omega), jn_ok]
        have eov : u1 (ovJ L a b j) j true = ovJ L a b (j + 1) := by
          funext l
          by_cases e : l = j
          · rw [e, u1_at]; unfold ovJ; rw [if_pos (by omega)]; symm; exact decide_eq_true ⟨hjn, by omega⟩
          · rw [u1_ne e]; unfold ovJ
            by_cases e2 : l < j
            · rw [if_pos (by omega), if_pos (by omega)]
            · rw [if_neg (by omega), if_neg (by omega)]
        have fin : ∃ s', (mm_pz (mm_wI s 19 j 8 (bI true)) 19 j 9 (bI (decide (S.kn (L.gl j) j = 0))) fun s67 => mm_gf s67 19 j 9 fun v73 => mm_cV (f_X_dropCopies (nI j) v73 s67) fun s76 => lp_X_expireWhatIsDue_2 kk n (nI (j + 1)) s76) = kk s' ∧ RS s' sz (expS L S (due L a b)) ∧ RLe s' L (ovJ L a b L.n) (expL L S (due L a b)).ex ∧ FrE s s' := by
          have hL2 := hL1.wex (j := j) (v := decide (S.kn (L.gl j) j = 0))
          obtain ⟨s1, e2, h1, f1⟩ := X_drop (l := j) (e := decide (S.kn (L.gl j) j = 0)) (hS.fr (s' := mm_wI (mm_wI s 19 j 8 (bI true)) 19 j 9 (bI (decide (S.kn (L.gl j) j = 0)))) rfl rfl rfl rfl rfl) (by omega)
          rw [pz_ok, gf_ok, wI_y, e2, cV_ok]
          rw [expS_step (by omega) DJ_at, ← DJ_step hd] at h1
          have hL3 : RLe s1 L (ovJ L a b (j + 1)) (expL L S (DJ L a b (j + 1))).ex := by
            have := hL2.fr (f1 0 (by omega)).1 (f1 19 (by omega)).1
            rw [eov] at this
            have ee : (expL L S (DJ L a b (j + 1))).ex = u1 (expL L S (DJ L a b j)).ex j (decide (S.kn (L.gl j) j = 0)) := by
              rw [DJ_step hd]
              exact congrArg (fun x => Lts.ex x) (expL_step (L := L) (S := S) (D := DJ L a b j) (l := j)).symm
            rw [ee]; exact this
          obtain ⟨s2, e3, h2, h3, f2⟩ := ih n (j + 1) s1 (by omega) (by omega) (by rw [(f1 0 (by omega)).1, wI_ne (by decide), wI_ne (by decide)]; exact hc) h1 hL3
          exact ⟨s2, e3, h2, h3, (FrE.wI.tr FrE.wI).tr ((FrE.ss f1).tr f2)⟩
        have hkn' : (expS L S (DJ L a b j)).kn (L.gl j) j = S.kn (L.gl j) j := rfl
        rw [hkn']
        by_cases c3 : S.kn (L.gl j) j = 0
        · rw [decide_eq_true c3] at fin
          rw [if_neg (by rw [c3]; exact fun h => h rfl)]; exact fin
        · rw [decide_eq_false c3] at fin
          rw [if_pos (by rw [show (0 : Int32) = nI 0 from rfl, qI_inj (by omega) (by omega)]; exact c3)]; exact fin
theorem M_exp_lp (wl : WL L) (hk2 : ∀ i l, S.kn i l ≤ 2) (hb : b = a + 1) (hb2 : b < 2000000000) (hps : ∀ l, l < L.n → L.ps l ≤ b) {x1 x2 : Int32} {kk : Mem → RR} : ∀ (m n j : Nat) (s : Mem), j + m = L.n → m < n → s.1 30 0 5 = nI b → QS s sz (expS L S (DJ L a b j)) → QL s (expL L S (DJ L a b j)) →
    ∃ s', lp_M_minute_49 x1 x2 kk n (nI j) s = kk s' ∧ QS s' sz (expS L S (due L a b)) ∧ QL s' (expL L S (due L a b)) ∧ (∀ F, F ≠ 44 → F ≠ 35 → (F < 46 ∨ 52 < F) → s'.1 F = s.1 F ∧ s'.2 F = s.2 F) := by
  have h16 := wl.n16
  intro m
  induction m with
  | zero =>
    intro n j s hj hn hc hS hL
    obtain ⟨n, rfl⟩ : ∃ n', n = n' + 1 := ⟨n - 1, by omega⟩
    have ej : j = L.n := by omega
    subst ej
    rw [DJ_n] at hS hL
    have hn0 : s.1 30 0 7 = nI L.n := hL.n
    unfold lp_M_minute_49
    rw [gf_ok, hn0, if_pos (by simp (disch := omega) only [qI_lit, qI_m1, qI_add, qI_mul, qI_le, qI_lt, qI_inj, qI_ne_m, m_ne_nI, m_lt_nI, m_le_nI, qI_lt_m, qI_le_m, qI_sub, qI_div, qI_rem, bI_0, bI_1]; omega)]
    exact ⟨s, rfl, hS, hL, fun _ _ _ _ => ⟨rfl, rfl⟩⟩
  | succ m ih =>
    intro n j s hj hn hc hS hL
    obtain ⟨n, rfl⟩ : ∃ n', n = n' + 1 := ⟨n - 1, by omega⟩
    have hjn : j < L.n := by omega
    have hpj := hps j hjn
    have e1 : nI j + 1 = nI (j + 1) := by simp (disch := omega) only [qI_lit, qI_m1, qI_add, qI_mul, qI_le, qI_lt, qI_inj, qI_ne_m, m_ne_nI, m_lt_nI, m_le_nI, qI_lt_m, qI_le_m, qI_sub, qI_div, qI_rem, bI_0, bI_1]
    have hn0 : s.1 30 0 7 = nI L.n := hL.n
    have hp0 : s.1 41 0 j = nI (L.ps j) := hL.ps j hjn
    unfold lp_M_minute_49
    rw [gf_ok, hn0, if_neg (by simp (disch := omega) only [qI_lit, qI_m1, qI_add, qI_mul, qI_le, qI_lt, qI_inj, qI_ne_m, m_ne_nI, m_lt_nI, m_le_nI, qI_lt_m, qI_le_m, qI_sub, qI_div, qI_rem, bI_0, bI_1]; omega), ld_ok (by omega) (by omega), hp0, gf_ok, hc, e1, show nI (L.ps j) + 7200 = nI (L.ps j + 7200) by simp only [qI_lit, qI_add]]
    by_cases c1 : L.ps j + 7200 = b
    · have hd : due L a b j = true := by unfold due; exact decide_eq_true ⟨hjn, by omega, by omega⟩
      rw [if_neg (by rw [c1]; exact fun h => h rfl)]
      obtain ⟨s1, e2, h1, h2, f1⟩ := M_expire hS hL ⟨wl.n16, wl.s1, wl.s32, wl.srt, wl.org, wl.gl, wl.ad⟩ hk2 hjn
      rw [e2, cV_ok]
      have h1' : QS s1 sz (expS L S (DJ L a b (j + 1))) := by
        rw [DJ_step hd, ← expS_step (by omega) DJ_at]; exact h1
      have h2' : QL s1 (expL L S (DJ L a b (j + 1))) := by
        rw [DJ_step hd, ← expL_step]; exact h2
      obtain ⟨s2, e3, h3, h4, f2⟩ := ih n (j + 1) s1 (by omega) (by omega) (by rw [(f1 30 (by decide) (by decide) (by decide)).1]; exact hc) h1' h2'
      exact ⟨s2, e3, h3, h4, fun F g1 g2 g3 => ⟨(f2 F g1 g2 g3).1.trans (f1 F g1 g2 g3).1, (f2 F g1 g2 g3).2.trans (f1 F g1 g2 g3).2⟩⟩
    · have hd : due L a b j = false := by unfold due; exact decide_eq_false (by omega)
      rw [if_pos (by rw [qI_inj (by omega) (by omega)]; exact c1)]
      refine ih n (j + 1) s (by omega) (by omega) hc ?_ ?_
      · rw [DJ_skip hd]; exact hS
      · rw [DJ_skip hd]; exact hL
end

-- the calls that only ask
theorem RX.frr {s s' : Mem} {A : Ab} {i : Nat} (hX : RX s A) (f1 : FrR i s s') : RX s' A :=
  ⟨by rw [f1.1 0 (by decide)]; exact hX.clk, by rw [f1.1 0 (by decide)]; exact hX.pub, by rw [f1.1 0 (by decide)]; exact hX.tln, fun t ht => (hX.tab t ht).elim fun L hL => ⟨L, hL.1.frr f1, hL.2⟩,
    hX.sto.fr (f1.1 7 (by decide)) (f1.1 8 (by decide)) (f1.1 9 (by decide)) (by rw [f1.2.2]) (f1.1 11 (by decide)), hX.ltr.fr (f1.1 0 (by decide)) (f1.1 19 (by decide)), hX.box.fr (f1.1 15 (by decide)) (f1.1 16 (by decide)) (f1.1 17 (by decide)) (by rw [f1.2.2]), by rw [f1.2.2]; exact hX.txb⟩
theorem RM.fra {s s' : Mem} {A : Ab} (ht1 : RM s A) (f2 : FrA s s') : RM s' A :=
  ⟨by rw [(f2 30 (by decide)).1]; exact ht1.clk, by rw [(f2 30 (by decide)).1]; exact ht1.pub, by rw [(f2 30 (by decide)).1]; exact ht1.tln, fun t ht => (ht1.tab t ht).fra f2,
    ht1.sto.fr (f2 35 (by decide)).1 (f2 46 (by decide)).1 (f2 47 (by decide)).1 (f2 48 (by decide)).1 (f2 49 (by decide)).1 (f2 50 (by decide)).1 (f2 51 (by decide)).1 (f2 52 (by decide)).1,
    ⟨by rw [(f2 30 (by decide)).1]; exact ht1.ltr.n, by rw [(f2 36 (by decide)).1]; exact ht1.ltr.sz, by rw [(f2 37 (by decide)).1]; exact ht1.ltr.srt, by rw [(f2 38 (by decide)).1]; exact ht1.ltr.org, by rw [(f2 39 (by decide)).1]; exact ht1.ltr.gl, by rw [(f2 40 (by decide)).1]; exact ht1.ltr.ad, by rw [(f2 41 (by decide)).1]; exact ht1.ltr.ps, by rw [(f2 42 (by decide)).1]; exact ht1.ltr.sm, by rw [(f2 43 (by decide)).1]; exact ht1.ltr.pr, by rw [(f2 44 (by decide)).1]; exact ht1.ltr.ex⟩,
    ⟨by rw [(f2 45 (by decide)).1]; exact ht1.box.dlv, by rw [(f2 53 (by decide)).1]; exact ht1.box.quo, by rw [(f2 54 (by decide)).1]; exact ht1.box.cnt, by rw [(f2 55 (by decide)).1]; exact ht1.box.lie, by rw [(f2 56 (by decide)).1]; exact ht1.box.grp⟩, by rw [(f2 57 (by decide)).1]; exact ht1.txb⟩
section
variable {s : Mem} {A : Ab} {c : Nat} {x1 x2 x3 x4 : Int32}
theorem M_isLetter (h : RM s A) : f_M_isLetter x1 s = mm_ri (bI (inR 0 A.L.n x1)) s := by
  unfold f_M_isLetter inR
  by_cases h1 : x1 < 0
  · rw [if_pos h1, decide_eq_false (fun h => nlt_le.mpr h.1 h1)]; rfl
  · rw [if_neg h1, gf_ok, h.ltr.n]
    by_cases h2 : nI A.L.n ≤ x1
    · rw [if_pos h2, decide_eq_false (fun h => nle_lt.mpr h.2 h2)]; rfl
    · rw [if_neg h2, decide_eq_true ⟨nlt_le.mp h1, nle_lt.mp h2⟩]; rfl
theorem M_isBox : f_M_isBox x1 x2 s = mm_ri (bI (inR 0 8 x1 && inR 0 3 x2)) s := by
  unfold f_M_isBox
  rw [M_isKiosk, cI_ok]
  cases inR 0 8 x1 with
  | false => rfl
  | true =>
    rw [if_neg (by decide), show (2 : Int32) = nI 2 from rfl, M_upTo (by decide), cI_ok]
    cases inR 0 (2 + 1) x2 <;> rfl
def staV (A : Ab) (l : Nat) : Int32 := if A.S.kn (A.L.org l) l = 0 then (if A.L.ex l then nI 3 else nI 0) else nI (A.S.kn (A.L.org l) l)
theorem call_status (hX : RX s A) (hW : WF A c) : Agr (f_X_status x1) (f_M_status x1) 2 1 1 s A c := by
  have wl := hW.wk.wl
  have h16 := wl.n16
  cases hg : inR 0 A.L.n x1 with
  | false =>
    refine Agr.no hX hW (e := 1) (by decide) (by decide) ?_ fun t ht => ⟨nI 0, mm_wI t 30 0 31 (nI 1), ?_, wI_y, ht.thr, FrN.wI (by decide)⟩
    · unfold f_X_status
      rw [gf_ok, hX.ltr.n, X_isWithin, hg, cI_ok, X_demand]; rfl
    · unfold f_M_status
      simp only [mm_jn]
      rw [M_isLetter ht, hg, cI_ok, if_pos (by decide), pf_ok, gf_ok, wI_y, if_neg (by decide)]; rfl
  | true =>
    have hg' := hg
    obtain ⟨l, _, hl, rfl⟩ := inR_get (by decide) (by omega) hg
    have ho := wl.org l hl
    have hk := hW.ws.k2 (A.L.org l) l
    refine Agr.yes (by decide) hW.mono (s' := s) (v := staV A l) ?_ hX FrC.rf fun t ht => ⟨mm_wI t 30 0 31 (nI 0), ?_, wI_y, ht.thr, FrN.wI (by decide)⟩
    · unfold f_X_status
      rw [gf_ok, hX.ltr.n, X_isWithin, hg', cI_ok, X_demand, if_pos rfl, tV_ok, al_ok (by omega) (by omega), gf_ok, hX.ltr.org l hl, al_ok (by omega) (by omega), ld_ok (by omega) (by omega), hX.sto.kno _ _ (by omega) (by omega)]
      unfold staV
      by_cases e : A.S.kn (A.L.org l) l = 0
      · rw [if_neg (by rw [e]; exact fun h => h rfl), if_pos e, al_ok (by omega) (by omega), gf_ok, hX.ltr.ex l (by omega), e]
        cases A.L.ex l <;> rfl
      · rw [if_pos (by rw [show (0 : Int32) = nI 0 from rfl, qI_inj (by omega) (by omega)]; exact e), if_neg e]
    · have ht1 := ht.thr (v := nI 0)
      unfold f_M_status
      simp only [mm_jn]
      rw [M_isLetter ht, hg', cI_ok, if_neg (by decide), show (0 : Int32) = nI 0 from rfl, pf_ok, gf_ok, wI_y, if_pos rfl, ld_ok (by omega) (by omega), ht1.ltr.org l hl, show (16 : Int32) * nI (A.L.org l) + nI l = nI (16 * A.L.org l + l) by simp only [qI_lit, qI_mul, qI_add], ld_ok (by omega) (by omega), ht1.sto.kno _ _ (by omega) (by omega)]
      unfold staV
      by_cases e : A.S.kn (A.L.org l) l = 0
      · rw [if_pos (by rw [e]), if_pos e, ld_ok (by omega) (by omega), ht1.ltr.ex l (by omega)]
        cases A.L.ex l <;> rfl
      · rw [if_neg (by rw [qI_inj (by omega) (by omega)]; exact e), if_neg e]
theorem call_promise (hX : RX s A) (hW : WF A c) : Agr (f_X_promise x1) (f_M_promise x1) 2 1 1 s A c := by
  have wl := hW.wk.wl
  have h16 := wl.n16
  cases hg : inR 0 A.L.n x1 with
  | false =>
    refine Agr.no hX hW (e := 1) (by decide) (by decide) ?_ fun t ht => ⟨nI 0, mm_wI t 30 0 31 (nI 1), ?_, wI_y, ht.thr, FrN.wI (by decide)⟩
    · unfold f_X_promise
      rw [gf_ok, hX.ltr.n, X_isWithin, hg, cI_ok, X_demand]; rfl
    · unfold f_M_promise
      simp only [mm_jn]
      rw [M_isLetter ht, hg, cI_ok, if_pos (by decide), pf_ok, gf_ok, wI_y, if_neg (by decide)]; rfl
  | true =>
    have hg' := hg
    obtain ⟨l, _, hl, rfl⟩ := inR_get (by decide) (by omega) hg
    refine Agr.yes (by decide) hW.mono (s' := s) (v := A.L.pr l) ?_ hX FrC.rf fun t ht => ⟨mm_wI t 30 0 31 (nI 0), ?_, wI_y, ht.thr, FrN.wI (by decide)⟩
    · unfold f_X_promise
      rw [gf_ok, hX.ltr.n, X_isWithin, hg', cI_ok, X_demand, if_pos rfl, tV_ok, al_ok (by omega) (by omega), gf_ok, hX.ltr.pr l hl]
    · have ht1 := ht.thr (v := nI 0)
      unfold f_M_promise
      simp only [mm_jn]
      rw [M_isLetter ht, hg', cI_ok, if_neg (by decide), show (0 : Int32) = nI 0 from rfl, pf_ok, gf_ok, wI_y, if_pos rfl, ld_ok (by omega) (by omega), ht1.ltr.pr l hl]
-- custodians
def cusV (S : Sto) (l : Nat) : Nat → Int32
  | 0 => nI 0
  | i + 1 => if c4 (S.cp i) l = 0 then cusV S l i else cusV S l i ||| mm_ishl 1 (nI i)
theorem X_custodians_lp (hX : RX s A) {l : Nat} (hl : l < 16) {kk : Int32 → Mem → RR} : ∀ (m n i : Nat), i + m = 12 → m < n → lp_X_custodians_15 (nI l) kk n (cusV A.S l i) (nI i) s = kk (cusV A.S l 12) s := by
  intro m
  induction m with
  | zero =>
    intro n i hi hn
    obtain ⟨n, rfl⟩ : ∃ n', n = n' + 1 := ⟨n - 1, by omega⟩
    unfold lp_X_custodians_15
    rw [if_pos (by simp (disch := omega) only [qI_lit, qI_m1, qI_add, qI_mul, qI_le, qI_lt, qI_inj, qI_ne_m, m_ne_nI, m_lt_nI, m_le_nI, qI_lt_m, qI_le_m, qI_sub, qI_div, qI_rem, bI_0, bI_1]; omega), show i = 12 by omega]
  | succ m ih =>
    intro n i hi hn
    obtain ⟨n, rfl⟩ : ∃ n', n = n' + 1 := ⟨n - 1, by omega⟩
    unfold lp_X_custodians_15
    have h4 : c4 (A.S.cp i) l ≤ 4 := cN_le _ _
    have e1 : nI i + 1 = nI (i + 1) := by simp (disch := omega) only [qI_lit, qI_m1, qI_add, qI_mul, qI_le, qI_lt, qI_inj, qI_ne_m, m_ne_nI, m_lt_nI, m_le_nI, qI_lt_m, qI_le_m, qI_sub, qI_div, qI_rem, bI_0, bI_1]
    rw [if_neg (by simp (disch := omega) only [qI_lit, qI_m1, qI_add, qI_mul, qI_le, qI_lt, qI_inj, qI_ne_m, m_ne_nI, m_lt_nI, m_le_nI, qI_lt_m, qI_le_m, qI_sub, qI_div, qI_rem, bI_0, bI_1]; omega), al_ok (by omega) (by omega), S_countOf hX.sto (by omega) hl, cI_ok, e1]
    have e3 : cusV A.S l (i + 1) = if c4 (A.S.cp i) l = 0 then cusV A.S l i else cusV A.S l i ||| mm_ishl 1 (nI i) := rfl
    by_cases e : c4 (A.S.cp i) l = 0
    · rw [if_pos e] at e3
      rw [if_pos (by rw [e]; decide), ← e3]; exact ih n (i + 1) (by omega) (by omega)
    · rw [if_neg e] at e3
      rw [if_neg (by rw [show (0 : Int32) = nI 0 from rfl, qI_le (by omega) (by omega)]; omega), ← e3]; exact ih n (i + 1) (by omega) (by omega)
theorem or_idem {a b : Int32} : a ||| b ||| b = a ||| b := by
  rw [Int32.or_assoc, Int32.or_self]
theorem M_cus37_lp (hR : RM s A) {l i : Nat} (hl : l < 16) (hi : i < 12) {x : Int32} {kk : Int32 → Mem → RR} : ∀ (m n p : Nat), p + m = 4 → m < n → lp_M_custodians_37 (nI l) (nI i) kk n (if cN (fun q => A.S.cp i (4 * l + q)) p = 0 then x else x ||| mm_ishl 1 (nI i)) (nI p) s = kk (if cN (fun q => A.S.cp i (4 * l + q)) 4 = 0 then x else x ||| mm_ishl 1 (nI i)) s := by
  intro m
  induction m with
  | zero =>
    intro n p hp hn
    obtain ⟨n, rfl⟩ : ∃ n', n = n' + 1 := ⟨n - 1, by omega⟩
    unfold lp_M_custodians_37
    rw [if_pos (by simp (disch := omega) only [qI_lit, qI_m1, qI_add, qI_mul, qI_le, qI_lt, qI_inj, qI_ne_m, m_ne_nI, m_lt_nI, m_le_nI, qI_lt_m, qI_le_m, qI_sub, qI_div, qI_rem, bI_0, bI_1]; omega), show p = 4 by omega]
  | succ m ih =>
    intro n p hp hn
    obtain ⟨n, rfl⟩ : ∃ n', n = n' + 1 := ⟨n - 1, by omega⟩
    unfold lp_M_custodians_37
    have e1 : nI p + 1 = nI (p + 1) := by simp (disch := omega) only [qI_lit, qI_m1, qI_add, qI_mul, qI_le, qI_lt, qI_inj, qI_ne_m, m_ne_nI, m_lt_nI, m_le_nI, qI_lt_m, qI_le_m, qI_sub, qI_div, qI_rem, bI_0, bI_1]
    rw [if_neg (by simp (disch := omega) only [qI_lit, qI_m1, qI_add, qI_mul, qI_le, qI_lt, qI_inj, qI_ne_m, m_ne_nI, m_lt_nI, m_le_nI, qI_lt_m, qI_le_m, qI_sub, qI_div, qI_rem, bI_0, bI_1]; omega), M_at, cI_ok, ld_ok (by omega) (by omega), show 64 * i + 4 * l + p = 64 * i + (4 * l + p) by omega, hR.sto.cop i (4 * l + p) hi (by omega), e1]
    have := ih n (p + 1) (by omega) (by omega)
    cases hc : A.S.cp i (4 * l + p) with
    | false =>
      rw [if_pos (by decide)]
      have e4 : cN (fun q => A.S.cp i (4 * l + q)) (p + 1) = cN (fun q => A.S.cp i (4 * l + q)) p := by simp only [cN, hc]; rfl
      rw [e4] at this; exact this
    | true =>
      rw [if_neg (by decide)]
      have e4 : ¬ cN (fun q => A.S.cp i (4 * l + q)) (p + 1) = 0 := by simp only [cN, hc]; simp
      rw [if_neg e4] at this
      by_cases e : cN (fun q => A.S.cp i (4 * l + q)) p = 0
      · rw [if_pos e]; exact this
      · rw [if_neg e, or_idem]; exact this
theorem M_cus21_lp (hR : RM s A) {l : Nat} (hl : l < 16) (h0 : s.1 30 0 31 = nI 0) {kk : Int32 → Mem → RR} : ∀ (m n i : Nat), i + m = 12 → m < n → lp_M_custodians_21 (nI l) kk n (cusV A.S l i) (nI i) s = kk (cusV A.S l 12) s := by
  intro m
  induction m with
  | zero =>
    intro n i hi hn
    obtain ⟨n, rfl⟩ : ∃ n', n = n' + 1 := ⟨n - 1, by omega⟩
    unfold lp_M_custodians_21
    rw [if_pos (by simp (disch := omega) only [qI_lit, qI_m1, qI_add, qI_mul, qI_le, qI_lt, qI_inj, qI_ne_m, m_ne_nI, m_lt_nI, m_le_nI, qI_lt_m, qI_le_m, qI_sub, qI_div, qI_rem, bI_0, bI_1]; omega), show i = 12 by omega]
  | succ m ih =>
    intro n i hi hn
    obtain ⟨n, rfl⟩ : ∃ n', n = n' + 1 := ⟨n - 1, by omega⟩
    unfold lp_M_custodians_21
    have e1 : nI i + 1 = nI (i + 1) := by simp (disch := omega) only [qI_lit, qI_m1, qI_add, qI_mul, qI_le, qI_lt, qI_inj, qI_ne_m, m_ne_nI, m_lt_nI, m_le_nI, qI_lt_m, qI_le_m, qI_sub, qI_div, qI_rem, bI_0, bI_1]
    rw [if_neg (by simp (disch := omega) only [qI_lit, qI_m1, qI_add, qI_mul, qI_le, qI_lt, qI_inj, qI_ne_m, m_ne_nI, m_lt_nI, m_le_nI, qI_lt_m, qI_le_m, qI_sub, qI_div, qI_rem, bI_0, bI_1]; omega), gf_ok, h0, if_neg (fun h => h rfl)]
    show lp_M_custodians_37 (nI l) (nI i) _ FU (cusV A.S l i) (nI 0) s = _
    have h1 := M_cus37_lp hR hl (show i < 12 by omega) (x := cusV A.S l i) (kk := fun x2_37 s37 => lp_M_custodians_21 (nI l) kk n x2_37 (nI i + 1) s37) 4 FU 0 (by omega) (by unfold FU; omega)
    rw [if_pos (show cN (fun q => A.S.cp i (4 * l + q)) 0 = 0 from rfl)] at h1
    rw [h1, e1]
    exact ih n (i + 1) (by omega) (by omega)
theorem call_custodians (hX : RX s A) (hW : WF A c) : Agr (f_X_custodians x1) (f_M_custodians x1) 2 1 1 s A c := by
  have wl := hW.wk.wl
  have h16 := wl.n16
  cases hg : inR 0 A.L.n x1 with
  | false =>
    refine Agr.no hX hW (e := 1) (by decide) (by decide) ?_ fun t ht => ⟨nI 0, mm_wI t 30 0 31 (nI 1), ?_, wI_y, ht.thr, FrN.wI (by decide)⟩
    · unfold f_X_custodians
      rw [gf_ok, hX.ltr.n, X_isWithin, hg, cI_ok, X_demand]; rfl
    · unfold f_M_custodians
      simp only [mm_jn]
      rw [M_isLetter ht, hg, cI_ok, if_pos (by decide), pf_ok]
      show lp_M_custodians_21 x1 _ (99999 + 1) _ _ _ = _
      unfold lp_M_custodians_21
      rw [if_neg (by decide), gf_ok, wI_y, if_pos (by decide)]; rfl
  | true =>
    have hg' := hg
    obtain ⟨l, _, hl, rfl⟩ := inR_get (by decide) (by omega) hg
    refine Agr.yes (by decide) hW.mono (s' := s) (v := cusV A.S l 12) ?_ hX FrC.rf fun t ht => ⟨mm_wI t 30 0 31 (nI 0), ?_, wI_y, ht.thr, FrN.wI (by decide)⟩
    · unfold f_X_custodians
      rw [gf_ok, hX.ltr.n, X_isWithin, hg', cI_ok, X_demand, if_pos rfl, tV_ok]
      exact X_custodians_lp hX (by omega) (kk := fun x s => mm_ri x s) 12 FU 0 (by omega) (by unfold FU; omega)
    · have ht1 := ht.thr (v := nI 0)
      unfold f_M_custodians
      simp only [mm_jn]
      rw [M_isLetter ht, hg', cI_ok, if_neg (by decide), show (0 : Int32) = nI 0 from rfl, pf_ok]
      exact M_cus21_lp ht1 (by omega) wI_y (kk := fun x s => mm_ri x s) 12 FU 0 (by omega) (by unfold FU; omega)
end

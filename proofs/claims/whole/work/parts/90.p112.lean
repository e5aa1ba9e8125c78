def oBf (T : List Hlt) (L : Lts) (b k now l : Nat) : Bool := decide (L.gl l = k ∨ cmK T k (now + 1) (L.gl l) < cmB T b now (L.gl l))
def oKf (T : List Hlt) (L : Lts) (b k now l : Nat) : Bool := decide (¬ L.gl l = k ∧ cmB T b now (L.gl l) ≠ LATE ∧ ¬ cmK T k (now + 1) (L.gl l) < cmB T b now (L.gl l))
def f0F (T : List Hlt) (L : Lts) (S : Sto) (b k now p : Nat) : Bool := oBf T L b k now (p / 4) && S.cp b p
def f1F (T : List Hlt) (L : Lts) (S : Sto) (b k now p : Nat) : Bool := oKf T L b k now (p / 4) && S.cp k p
section
variable {T : List Hlt} {L : Lts} {S : Sto} {sz : Nat → Nat} {b k now : Nat}
theorem X_offer {s : Mem} {l : Nat} (hb : b < 12) (hk : k < 8) (wl : WL L) (hl : l < L.n) (hS : RS s sz S) (hL : RL s now L) (hK : ∀ g, g < 8 → s.1 23 0 g = nI (cmK T k (now + 1) g)) (hB : ∀ g, g < 8 → s.1 23 1 g = nI (cmB T b now g)) (lK : ∀ g, cmK T k (now + 1) g ≤ LATE) (lB : ∀ g, cmB T b now g ≤ LATE) {xs ys : List Nat} (hx : OfR s 0 xs) (hy : OfR s 1 ys) (h1 : xs.length + (pcsF (f0F T L S b k now) l 4 0).length ≤ 24) (h2 : ys.length + (pcsF (f1F T L S b k now) l 4 0).length ≤ 24) :
    ∃ s', f_X_offerPiecesOf (nI l) (nI b) (nI k) s = mm_rv s' ∧ OfR s' 0 (xs ++ pcsF (f0F T L S b k now) l 4 0) ∧ OfR s' 1 (ys ++ pcsF (f1F T L S b k now) l 4 0) ∧ FrO s s' := by
  have hLt : LATE = 2147483647 := rfl
  have h16 := wl.n16
  have hg := wl.gl l hl
  have a1 := lK (L.gl l)
  have a2 := lB (L.gl l)
  obtain ⟨s', e1, g1, g2, g3⟩ := X_offP_lp (sz := sz) (S := S) (b := b) (k := k) (l := l) (f0 := f0F T L S b k now) (f1 := f1F T L S b k now) (oB := oBf T L b k now l) (oK := oKf T L b k now l) hb (by omega) (by omega) (fun j hj => by unfold f0F; rw [show (4 * l + j) / 4 = l by omega]) (fun j hj => by unfold f1F; rw [show (4 * l + j) / 4 = l by omega]) (kk := fun s87 => mm_rv s87) 4 FU 0 s xs ys (by omega) (by unfold FU; omega) hS hx hy h1 h2
  refine ⟨s', ?_, g1, g2, g3⟩
  have key : ∀ y53 y80 : Int32, y53 = bI (oBf T L b k now l) → y80 = bI (oKf T L b k now l) → (mm_lp (fun kk => lp_X_offerPiecesOf_87 (nI l) (nI b) (nI k) y53 y80 kk FU (nI l * 4) s) fun s87 => mm_rv s87) = mm_rv s' := by
    intro y z hy hz
    rw [hy, hz, show nI l * 4 = nI (4 * l + 0) by simp only [qI_lit, qI_mul]; congr 1; omega]
    exact e1
  unfold f_X_offerPiecesOf
  rw [al_ok (by omega) (by omega), gf_ok, hL.gl l hl, ld_ok hg (by omega), hK _ hg, ld_ok hg (by omega), hB _ hg, jn_ok]
  by_cases c1 : L.gl l = k
  · have o1 : bI (oBf T L b k now l) = 1 := by unfold oBf; rw [decide_eq_true (.inl c1)]; rfl
    have o2 : bI (oKf T L b k now l) = 0 := by unfold oKf; rw [decide_eq_false (fun h => h.1 c1)]; rfl
    rw [if_pos (by rw [c1])]
    show mm_jn _ _ = _
    rw [jn_ok, if_pos (by rw [c1])]
    exact key 1 0 o1.symm o2.symm
  · have n1 : ¬ nI (L.gl l) = nI k := by rw [qI_inj (by omega) (by omega)]; exact c1
    rw [if_neg n1]
    by_cases c2 : cmK T k (now + 1) (L.gl l) < cmB T b now (L.gl l)
    · have o1 : bI (oBf T L b k now l) = 1 := by unfold oBf; rw [decide_eq_true (.inr c2)]; rfl
      have o2 : bI (oKf T L b k now l) = 0 := by unfold oKf; rw [decide_eq_false (fun h => h.2.2 c2)]; rfl
      rw [if_neg (by rw [qI_le (by omega) (by omega)]; omega)]
      show mm_jn _ _ = _
      rw [jn_ok, if_neg n1]
      by_cases c3 : cmB T b now (L.gl l) = LATE
      · rw [if_pos (by rw [c3]; rfl)]; exact key 1 0 o1.symm o2.symm
      · rw [if_neg (by rw [show (2147483647 : Int32) = nI LATE from rfl, qI_inj (by omega) (by omega)]; exact c3), if_pos (by rw [qI_lt (by omega) (by omega)]; exact c2)]; exact key 1 0 o1.symm o2.symm
    · have o1 : bI (oBf T L b k now l) = 0 := by unfold oBf; rw [decide_eq_false (fun h => h.elim c1 c2)]; rfl
      rw [if_pos (by rw [qI_le (by omega) (by omega)]; omega)]
      show mm_jn _ _ = _
      rw [jn_ok, if_neg n1]
      by_cases c3 : cmB T b now (L.gl l) = LATE
      · have o2 : bI (oKf T L b k now l) = 0 := by unfold oKf; rw [decide_eq_false (fun h => h.2.1 c3)]; rfl
        rw [if_pos (by rw [c3]; rfl)]; exact key 0 0 o1.symm o2.symm
      · have o2 : bI (oKf T L b k now l) = 1 := by unfold oKf; rw [decide_eq_true ⟨c1, c3, c2⟩]; rfl
        rw [if_neg (by rw [show (2147483647 : Int32) = nI LATE from rfl, qI_inj (by omega) (by omega)]; exact c3), if_neg (by rw [qI_lt (by omega) (by omega)]; exact c2)]; exact key 0 1 o1.symm o2.symm
theorem X_set71_lp (hb : b < 12) (hk : k < 8) (wl : WL L) (lK : ∀ g, cmK T k (now + 1) g ≤ LATE) (lB : ∀ g, cmB T b now g ≤ LATE) {q : Nat} (hq : q < 3) {kk : Mem → RR} : ∀ (m n l : Nat) (s : Mem) (xs ys : List Nat), l + m = L.n → m < n → RS s sz S → RL s now L → (∀ g, g < 8 → s.1 23 0 g = nI (cmK T k (now + 1) g)) → (∀ g, g < 8 → s.1 23 1 g = nI (cmB T b now g)) → OfR s 0 xs → OfR s 1 ys → xs.length + (ltsF L (f0F T L S b k now) q m l).length ≤ 24 → ys.length + (ltsF L (f1F T L S b k now) q m l).length ≤ 24 →
    ∃ s', lp_X_settleOffers_71 (nI b) (nI k) (nI q) kk n (nI l) s = kk s' ∧ OfR s' 0 (xs ++ ltsF L (f0F T L S b k now) q m l) ∧ OfR s' 1 (ys ++ ltsF L (f1F T L S b k now) q m l) ∧ FrO s s' := by
  have h16 := wl.n16
  intro m
  induction m with
  | zero =>
    intro n l s xs ys hl hn hS hL hK hB hx hy _ _
    obtain ⟨n, rfl⟩ : ∃ n', n = n' + 1 := ⟨n - 1, by omega⟩
    unfold lp_X_settleOffers_71 ltsF
    rw [gf_ok, hL.n, if_pos (by simp (disch := omega) only [qI_lit, qI_m1, qI_add, qI_mul, qI_le, qI_lt, qI_inj, qI_ne_m, m_ne_nI, m_lt_nI, m_le_nI, qI_lt_m, qI_le_m, qI_sub, qI_div, qI_rem, bI_0, bI_1]; omega), List.append_nil, List.append_nil]
    exact ⟨s, rfl, hx, hy, FrO.rf⟩
  | succ m ih =>
    intro n l s xs ys hl hn hS hL hK hB hx hy hlx hly
    obtain ⟨n, rfl⟩ : ∃ n', n = n' + 1 := ⟨n - 1, by omega⟩
    have e1 : nI l + 1 = nI (l + 1) := by simp (disch := omega) only [qI_lit, qI_m1, qI_add, qI_mul, qI_le, qI_lt, qI_inj, qI_ne_m, m_ne_nI, m_lt_nI, m_le_nI, qI_lt_m, qI_le_m, qI_sub, qI_div, qI_rem, bI_0, bI_1]
    have hsr := wl.srt l (by omega)
    have v0 : ltsF L (f0F T L S b k now) q (m + 1) l = (if L.srt l = q then pcsF (f0F T L S b k now) l 4 0 else []) ++ ltsF L (f0F T L S b k now) q m (l + 1) := rfl
    have v1 : ltsF L (f1F T L S b k now) q (m + 1) l = (if L.srt l = q then pcsF (f1F T L S b k now) l 4 0 else []) ++ ltsF L (f1F T L S b k now) q m (l + 1) := rfl
    rw [v0] at hlx ⊢
    rw [v1] at hly ⊢
    unfold lp_X_settleOffers_71
    rw [gf_ok, hL.n, if_neg (by simp (disch := omega) only [qI_lit, qI_m1, qI_add, qI_mul, qI_le, qI_lt, qI_inj, qI_ne_m, m_ne_nI, m_lt_nI, m_le_nI, qI_lt_m, qI_le_m, qI_sub, qI_div, qI_rem, bI_0, bI_1]; omega), al_ok (by omega) (by omega), gf_ok, hL.srt l (by omega), e1]
    by_cases c : L.srt l = q
    · rw [if_pos c] at hlx hly
      rw [List.length_append] at hlx hly
      rw [if_neg (by rw [c]; exact fun h => h rfl), if_pos c, if_pos c, ← List.append_assoc, ← List.append_assoc]
      obtain ⟨s1, e2, g1, g2, g3⟩ := X_offer hb hk wl (show l < L.n by omega) hS hL hK hB lK lB hx hy (by omega) (by omega)
      rw [e2, cV_ok]
      obtain ⟨s2, e3, k1, k2, k3⟩ := ih n (l + 1) s1 _ _ (by omega) (by omega) (hS.fr (g3 7 (by decide)).1 (g3 8 (by decide)).1 (g3 9 (by decide)).1 (g3 10 (by decide)).2 (g3 11 (by decide)).1) (hL.fr (g3 0 (by decide)).1 (g3 19 (by decide)).1) (by rw [(g3 23 (by decide)).1]; exact hK) (by rw [(g3 23 (by decide)).1]; exact hB) g1 g2 (by rw [List.length_append]; omega) (by rw [List.length_append]; omega)
      exact ⟨s2, e3, k1, k2, g3.tr k3⟩
    · rw [if_neg c] at hlx hly
      rw [if_pos (by rw [qI_inj (by omega) (by omega)]; exact c), if_neg c, if_neg c, List.nil_append, List.nil_append]
      exact ih n (l + 1) s xs ys (by omega) (by omega) hS hL hK hB hx hy hlx hly
theorem X_set62_lp (hb : b < 12) (hk : k < 8) (wl : WL L) (lK : ∀ g, cmK T k (now + 1) g ≤ LATE) (lB : ∀ g, cmB T b now g ≤ LATE) {kk : Mem → RR} : ∀ (m n q : Nat) (s : Mem) (xs ys : List Nat), q + m = 3 → m < n → RS s sz S → RL s now L → (∀ g, g < 8 → s.1 23 0 g = nI (cmK T k (now + 1) g)) → (∀ g, g < 8 → s.1 23 1 g = nI (cmB T b now g)) → OfR s 0 xs → OfR s 1 ys → xs.length + (srtF L (f0F T L S b k now) m q).length ≤ 24 → ys.length + (srtF L (f1F T L S b k now) m q).length ≤ 24 →
    ∃ s', lp_X_settleOffers_62 (nI b) (nI k) kk n (nI q) s = kk s' ∧ OfR s' 0 (xs ++ srtF L (f0F T L S b k now) m q) ∧ OfR s' 1 (ys ++ srtF L (f1F T L S b k now) m q) ∧ FrO s s' := by
  have h16 := wl.n16
  intro m
  induction m with
  | zero =>
    intro n q s xs ys hq hn hS hL hK hB hx hy _ _
    obtain ⟨n, rfl⟩ : ∃ n', n = n' + 1 := ⟨n - 1, by omega⟩
    unfold lp_X_settleOffers_62 srtF
    rw [if_pos (by simp (disch := omega) only [qI_lit, qI_m1, qI_add, qI_mul, qI_le, qI_lt, qI_inj, qI_ne_m, m_ne_nI, m_lt_nI, m_le_nI, qI_lt_m, qI_le_m, qI_sub, qI_div, qI_rem, bI_0, bI_1]; omega), List.append_nil, List.append_nil]
    exact ⟨s, rfl, hx, hy, FrO.rf⟩
  | succ m ih =>
    intro n q s xs ys hq hn hS hL hK hB hx hy hlx hly
    obtain ⟨n, rfl⟩ : ∃ n', n = n' + 1 := ⟨n - 1, by omega⟩
    have e1 : nI q + 1 = nI (q + 1) := by simp (disch := omega) only [qI_lit, qI_m1, qI_add, qI_mul, qI_le, qI_lt, qI_inj, qI_ne_m, m_ne_nI, m_lt_nI, m_le_nI, qI_lt_m, qI_le_m, qI_sub, qI_div, qI_rem, bI_0, bI_1]
    have v0 : srtF L (f0F T L S b k now) (m + 1) q = ltsF L (f0F T L S b k now) q L.n 0 ++ srtF L (f0F T L S b k now) m (q + 1) := rfl
    have v1 : srtF L (f1F T L S b k now) (m + 1) q = ltsF L (f1F T L S b k now) q L.n 0 ++ srtF L (f1F T L S b k now) m (q + 1) := rfl
    rw [v0, List.length_append] at hlx
    rw [v1, List.length_append] at hly
    rw [v0, v1, ← List.append_assoc, ← List.append_assoc]
    obtain ⟨s1, e2, g1, g2, g3⟩ := X_set71_lp (S := S) (sz := sz) hb hk wl lK lB (q := q) (by omega) (kk := fun s71 => lp_X_settleOffers_62 (nI b) (nI k) kk n (nI (q + 1)) s71) L.n FU 0 s xs ys (by omega) (by unfold FU; omega) hS hL hK hB hx hy (by omega) (by omega)
    obtain ⟨s2, e3, k1, k2, k3⟩ := ih n (q + 1) s1 _ _ (by omega) (by omega) (hS.fr (g3 7 (by decide)).1 (g3 8 (by decide)).1 (g3 9 (by decide)).1 (g3 10 (by decide)).2 (g3 11 (by decide)).1) (hL.fr (g3 0 (by decide)).1 (g3 19 (by decide)).1) (by rw [(g3 23 (by decide)).1]; exact hK) (by rw [(g3 23 (by decide)).1]; exact hB) g1 g2 (by rw [List.length_append]; omega) (by rw [List.length_append]; omega)
    refine ⟨s2, ?_, k1, k2, g3.tr k3⟩
    unfold lp_X_settleOffers_62
    rw [if_neg (by simp (disch := omega) only [qI_lit, qI_m1, qI_add, qI_mul, qI_le, qI_lt, qI_inj, qI_ne_m, m_ne_nI, m_lt_nI, m_le_nI, qI_lt_m, qI_le_m, qI_sub, qI_div, qI_rem, bI_0, bI_1]; omega), e1]
    exact e2.trans e3
theorem cm_le {m : Nat} (hk : ∀ g, (runK T k m).2 g ≤ LATE) (hm : m ≤ LATE) (g : Nat) : cmK T k m g ≤ LATE := by
  have := hk g
  unfold cmK
  split
  · exact hm
  · split
    · exact Nat.le_refl _
    · omega
theorem cmb_le {m : Nat} (hk : ∀ g, (runB T b m).2 g ≤ LATE) (g : Nat) : cmB T b m g ≤ LATE := by
  have := hk g
  unfold cmB
  split
  · exact Nat.le_refl _
  · omega
end
section
variable {s : Mem} {A : Ab} {b k : Nat}
def FrG (s s' : Mem) : Prop := ∀ F, (F < 23 ∨ 27 < F) → s'.1 F = s.1 F ∧ s'.2 F = s.2 F
theorem X_settle (hX : RX s A) {H : Nat} (wl : WL A.L) (ws : WS A.L A.S H) (ok : TabOk (A.T (A.S.held b))) (hb : 8 ≤ b ∧ b < 12) (hk : k < 8) (hh : A.S.held b ≤ 6) (hnow : A.now ≤ 1000000000) :
    ∃ s', f_X_settleOffers (nI b) (nI k) s = mm_rv s' ∧ OfR s' 0 (ofs A.L (f0F (A.T (A.S.held b)) A.L A.S b k A.now)) ∧ OfR s' 1 (ofs A.L (f1F (A.T (A.S.held b)) A.L A.S b k A.now)) ∧ FrG s s' ∧ (∀ g, cmK (A.T (A.S.held b)) k (A.now + 1) g ≤ LATE) ∧ (∀ g, cmB (A.T (A.S.held b)) b A.now g ≤ LATE) ∧ (ofs A.L (f0F (A.T (A.S.held b)) A.L A.S b k A.now)).length ≤ 24 ∧ (ofs A.L (f1F (A.T (A.S.held b)) A.L A.S b k A.now)).length ≤ 24 := by
  have hLt : LATE = 2147483647 := rfl
  have h16 := wl.n16
  obtain ⟨L, hL, hsr, hpm⟩ := hX.tab (A.S.held b) (by omega)
  obtain ⟨s1, e1, h1, l1, f1⟩ := R_startK (i := 0) hL hsr hpm ok (k := k) (m := A.now + 1) hk (by omega)
  obtain ⟨s2, e2, h2, l2, f2⟩ := R_startB (i := 1) (hL.frr f1) hsr hpm ok (b := b) (m := A.now) hb (by omega)
  have lK := cm_le (k := k) l1 (by omega)
  have lB := cmb_le (b := b) l2
  have hc24 : ∀ i, capa i ≤ 24 := by intro i; unfold capa; split <;> omega
  have n0 : (ofs A.L (f0F (A.T (A.S.held b)) A.L A.S b k A.now)).length ≤ 24 := by
    refine Nat.le_trans (nd_len _ (A.S.cp b) (N := 64) (srt_nd 3 0) (fun x hx => ?_)) (Nat.le_trans (ws.cap b hb.2) (hc24 b))
    obtain ⟨g1, g2, g3⟩ := srt_mem 3 0 hx
    unfold f0F at g1
    rw [Bool.and_eq_true] at g1
    exact ⟨by omega, g1.2⟩
  have n1 : (ofs A.L (f1F (A.T (A.S.held b)) A.L A.S b k A.now)).length ≤ 24 := by
    refine Nat.le_trans (nd_len _ (A.S.cp k) (N := 64) (srt_nd 3 0) (fun x hx => ?_)) (Nat.le_trans (ws.cap k (by omega)) (hc24 k))
    obtain ⟨g1, g2, g3⟩ := srt_mem 3 0 hx
    unfold f1F at g1
    rw [Bool.and_eq_true] at g1
    exact ⟨by omega, g1.2⟩
  have f02 : ∀ F, (F < 23 ∨ 25 < F) → s2.1 F = s.1 F := fun F h => (f2.1 F h).trans (f1.1 F h)
  have f02' : s2.2 = s.2 := f2.2.2.trans f1.2.2
  generalize hs4 : mm_wI (mm_wI s2 26 0 1 (nI 0)) 26 1 1 (nI 0) = s4
  have f4 : ∀ F, F ≠ 26 → s4.1 F = s2.1 F := by intro F h; rw [← hs4, wI_ne h, wI_ne h]
  have f4' : s4.2 = s2.2 := by rw [← hs4]; rfl
  have hS4 : RS s4 A.L.sz A.S := hX.sto.fr ((f4 7 (by decide)).trans (f02 7 (by decide))) ((f4 8 (by decide)).trans (f02 8 (by decide))) ((f4 9 (by decide)).trans (f02 9 (by decide))) (by rw [f4', f02']) ((f4 11 (by decide)).trans (f02 11 (by decide)))
  have hL4 : RL s4 A.now A.L := hX.ltr.fr ((f4 0 (by decide)).trans (f02 0 (by decide))) ((f4 19 (by decide)).trans (f02 19 (by decide)))
  have o0 : OfR s4 0 [] := ⟨by rw [← hs4, wI_n (by decide), wI_y]; rfl, fun j x hx => by simp at hx⟩
  have o1 : OfR s4 1 [] := ⟨by rw [← hs4, wI_y]; rfl, fun j x hx => by simp at hx⟩
  obtain ⟨s5, e5, g1, g2, g3⟩ := X_set62_lp (S := A.S) (sz := A.L.sz) (b := b) (k := k) hb.2 hk wl lK lB (kk := fun s62 => mm_rv s62) 3 FU 0 s4 [] [] (by omega) (by unfold FU; omega) hS4 hL4 (fun g hg => by rw [f4 23 (by decide), f2.2.1 23 0 (by decide)]; exact h1 g hg) (fun g hg => by rw [f4 23 (by decide)]; exact h2 g hg) o0 o1 (by simpa [ofs] using n0) (by simpa [ofs] using n1)
  refine ⟨s5, ?_, g1, g2, fun F hF => ⟨(g3 F (by omega)).1.trans ((f4 F (by omega)).trans (f02 F (by omega))), (g3 F (by omega)).2.trans (by rw [f4', f02'])⟩, lK, lB, n0, n1⟩
  unfold f_X_settleOffers
  rw [al_ok hb.2 (by omega), gf_ok, hX.sto.hel b hb.2, al_ok (by omega) (by omega), gf_ok, hX.clk, show nI A.now + 1 = nI (A.now + 1) by simp only [qI_lit, qI_add], e1, cV_ok, gf_ok, f1.1 0 (by decide), hX.clk, e2, cV_ok, pf_ok, pf_ok, show (0 : Int32) = nI 0 from rfl, hs4]
  exact e5
end

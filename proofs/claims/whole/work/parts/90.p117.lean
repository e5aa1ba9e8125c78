-- the reference gives
def LasM (s : Mem) (sz : Nat → Nat) (bt : Nat → Nat → Nat → Nat) (w : Option (Nat × Nat × Nat)) : Prop := match w with
  | none => s.1 30 0 35 = mone
  | some (g, p, t) => s.1 30 0 35 = nI (64 * g + p) ∧ s.1 30 0 36 = nI t ∧ ∀ z, z < 8 → 8 * (p % 4) + z < sz (p / 4) → s.1 61 0 z = nI (bt g (p / 4) (8 * (p % 4) + z))
theorem LasM.fr {s s' : Mem} {sz : Nat → Nat} {bt : Nat → Nat → Nat → Nat} {w : Option (Nat × Nat × Nat)} (h : LasM s sz bt w) (e30 : s'.1 30 = s.1 30) (e61 : s'.1 61 = s.1 61) : LasM s' sz bt w := by
  cases w with
  | none => show s'.1 30 0 35 = mone; rw [e30]; exact h
  | some w => exact ⟨by rw [e30]; exact h.1, by rw [e30]; exact h.2.1, by rw [e61]; exact h.2.2⟩
theorem stp_bt {L : Lts} {g r p : Nat} {x : Sto × Bxs} (hG : Gr g r) : (stp L g r p x).1.bt g = x.1.bt g := by
  have h1 : (mvS x.1 g r p).bt g = x.1.bt g := by
    funext l j
    show (if g = r ∧ 4 * l + j / 8 = p then _ else x.1.bt g l j) = _
    rw [if_neg (fun h => hG.ne h.1)]
  unfold stp
  split
  · rw [(look_rest (L := L) (l := p / 4) (x := (mvS x.1 g r p, x.2))).2.2.2]; exact h1
  · exact h1
theorem MI.tl {L : Lts} {S : Sto} {B : Bxs} {H g r p : Nat} {ps : List Nat} (h : MI L S B H g r (p :: ps)) : MI L S B (H + 1) g r ps :=
  ⟨h.wk, h.ws.mono (by omega), (List.nodup_cons.mp h.nd).2, fun q hq => h.cpg q (List.mem_cons_of_mem _ hq), fun q hq => h.cpr q (List.mem_cons_of_mem _ hq), fun q hq => h.knr q (List.mem_cons_of_mem _ hq), h.vb⟩
theorem MI.up {L : Lts} {S : Sto} {B : Bxs} {H H' g r : Nat} {ps : List Nat} (h : MI L S B H g r ps) (hH : H ≤ H') : MI L S B H' g r ps := ⟨h.wk, h.ws.mono hH, h.nd, h.cpg, h.cpr, h.knr, h.vb⟩
section
variable {A : Ab} {g r q off HM : Nat} {f : Nat → Bool}
theorem M_g27_lp (hG : Gr g r) (hq : q ≤ 40) (hoff : off ≤ 64) (wl : WL A.L) (hHM : HM < 999999) {l sr : Nat} (hl : l < A.L.n) (hsr : A.L.srt l = sr) {kk : Int32 → Mem → RR} : ∀ (m n j c H : Nat) (s : Mem) (x : Sto × Bxs) (w : Option (Nat × Nat × Nat)) (rest : List Nat), j + m = 4 → m < n → c ≤ 40 → H + (pcsF f l m j ++ rest).length ≤ HM → RM s (ABx A x) → (∀ p, p < 4 * A.L.n → s.1 60 0 (off + p) = bI (f p)) → MI A.L x.1 x.2 H g r (pcsF f l m j ++ rest) → LasM s A.L.sz x.1.bt w →
    ∃ s', lp_M_give_27 (nI g) (nI r) (nI q) (nI off) (nI sr) (nI l) kk n (nI c) (nI j) s = kk (nI (mvA A.L g r q (pcsF f l m j) x c w).2.1) s' ∧ RM s' (ABx A (mvA A.L g r q (pcsF f l m j) x c w).1) ∧ LasM s' A.L.sz (mvA A.L g r q (pcsF f l m j) x c w).1.1.bt (mvA A.L g r q (pcsF f l m j) x c w).2.2 ∧ MI A.L (mvA A.L g r q (pcsF f l m j) x c w).1.1 (mvA A.L g r q (pcsF f l m j) x c w).1.2 (H + (pcsF f l m j).length) g r rest ∧ (mvA A.L g r q (pcsF f l m j) x c w).2.1 ≤ 40 ∧ s'.1 60 = s.1 60 ∧ s'.1 30 0 31 = s.1 30 0 31 ∧ FrN s s' := by
  have n16 := wl.n16
  have hs3 := wl.srt l hl
  intro m
  induction m with
  | zero =>
    intro n j c H s x w rest hj hn hc hH hR hf hM hw
    obtain ⟨n, rfl⟩ : ∃ n', n = n' + 1 := ⟨n - 1, by omega⟩
    unfold lp_M_give_27
    rw [if_pos (by simp (disch := omega) only [qI_lit, qI_m1, qI_add, qI_mul, qI_le, qI_lt, qI_inj, qI_ne_m, m_ne_nI, m_lt_nI, m_le_nI, qI_lt_m, qI_le_m, qI_sub, qI_div, qI_rem, bI_0, bI_1]; omega)]
    exact ⟨s, rfl, hR, hw, hM, hc, rfl, rfl, FrN.rf⟩
  | succ m ih =>
    intro n j c H s x w rest hj hn hc hH hR hf hM hw
    obtain ⟨n, rfl⟩ : ∃ n', n = n' + 1 := ⟨n - 1, by omega⟩
    have e1 : nI j + 1 = nI (j + 1) := by simp (disch := omega) only [qI_lit, qI_m1, qI_add, qI_mul, qI_le, qI_lt, qI_inj, qI_ne_m, m_ne_nI, m_lt_nI, m_le_nI, qI_lt_m, qI_le_m, qI_sub, qI_div, qI_rem, bI_0, bI_1]
    have ec : nI c + 1 = nI (c + 1) := by simp only [qI_lit, qI_add]
    have h37 : s.1 37 0 l = nI sr := by rw [← hsr]; exact hR.ltr.srt l hl
    have u0 : pcsF f l (m + 1) j = (if f (4 * l + j) then [4 * l + j] else []) ++ pcsF f l m (j + 1) := rfl
    rw [u0, List.append_assoc] at hM hH
    rw [u0]
    unfold lp_M_give_27
    rw [if_neg (by simp (disch := omega) only [qI_lit, qI_m1, qI_add, qI_mul, qI_le, qI_lt, qI_inj, qI_ne_m, m_ne_nI, m_lt_nI, m_le_nI, qI_lt_m, qI_le_m, qI_sub, qI_div, qI_rem, bI_0, bI_1]; omega), ld_ok (by omega) (by omega), h37, if_neg (fun h => h rfl), e1, ec]
    by_cases c1 : q ≤ c
    · rw [if_pos (by simp (disch := omega) only [qI_lit, qI_m1, qI_add, qI_mul, qI_le, qI_lt, qI_inj, qI_ne_m, m_ne_nI, m_lt_nI, m_le_nI, qI_lt_m, qI_le_m, qI_sub, qI_div, qI_rem, bI_0, bI_1]; exact c1)]
      have hM2 : MI A.L x.1 x.2 (H + (if f (4 * l + j) then [4 * l + j] else [] : List Nat).length) g r (pcsF f l m (j + 1) ++ rest) := by
        cases hf1 : f (4 * l + j) with
        | false => rw [hf1] at hM; exact hM
        | true => rw [hf1] at hM; exact MI.tl hM
      have e9 : ∀ ys, mvA A.L g r q ys x c w = (x, c, w) := fun ys => mvA_full c1 ys x w
      obtain ⟨s', k1, k2, k3, k4, k5, k6, k7, k8⟩ := ih n (j + 1) c _ s x w rest (by omega) (by omega) hc (by rw [List.length_append] at hH; omega) hR hf hM2 hw
      rw [e9] at k1 k2 k3 k4 k5 ⊢
      exact ⟨s', k1, k2, k3, by rw [List.length_append, ← Nat.add_assoc]; exact k4, k5, k6, k7, k8⟩
    · have hfl : s.1 60 0 (off + (4 * l + j)) = bI (f (4 * l + j)) := hf _ (by omega)
      have eo : nI off + 4 * nI l + nI j = nI (off + (4 * l + j)) := by simp only [qI_lit, qI_mul, qI_add]; congr 1; omega
      rw [if_neg (by simp (disch := omega) only [qI_lit, qI_m1, qI_add, qI_mul, qI_le, qI_lt, qI_inj, qI_ne_m, m_ne_nI, m_lt_nI, m_le_nI, qI_lt_m, qI_le_m, qI_sub, qI_div, qI_rem, bI_0, bI_1]; exact c1), eo, ld_ok (by omega) (by omega), hfl]
      cases hf1 : f (4 * l + j) with
      | false =>
        rw [hf1] at hM hH
        rw [if_pos (by decide)]
        exact ih n (j + 1) c H s x w rest (by omega) (by omega) hc hH hR hf hM hw
      | true =>
        rw [hf1] at hM hH
        have hM1 : MI A.L x.1 x.2 H g r ((4 * l + j) :: (pcsF f l m (j + 1) ++ rest)) := hM
        have hH1 : H + ((pcsF f l m (j + 1) ++ rest).length + 1) ≤ HM := hH
        obtain ⟨m1, m2⟩ := M_move hR hG (by omega) hl hM1 (by omega)
        have ecat : ([4 * l + j] : List Nat) ++ pcsF f l m (j + 1) = (4 * l + j) :: pcsF f l m (j + 1) := rfl
        rw [if_neg (by decide), if_pos rfl, ecat, mvA_cons, if_neg c1]
        by_cases c2 : cN (x.1.cp r) 64 = capa r
        · obtain ⟨s1, a1, a2, a3, a4, a5, a6⟩ := m1 c2
          rw [a1, cI_ok, if_pos (by decide), if_pos c2]
          obtain ⟨s', k1, k2, k3, k4, k5, k6, k7, k8⟩ := ih n (j + 1) c H s1 (refu r x) w rest (by omega) (by omega) hc (by omega) a2 (by rw [a4]; exact hf) (refu_ok (S := x.1) (B := x.2) hM1) (hw.fr a3 a5)
          exact ⟨s', k1, k2, k3, k4.up (by rw [List.length_cons]; omega), k5, k6.trans a4, k7.trans (by rw [a3]), a6.tr k8⟩
        · obtain ⟨s1, a1, a2, a3, a4, a5, a6, a7, a8⟩ := m2 c2
          rw [a1, cI_ok, if_neg (by decide), if_neg c2]
          have hM1' : MI A.L x.1 x.2 H g r ((4 * l + j) :: (pcsF f l m (j + 1) ++ rest)) := hM1
          obtain ⟨b1, _⟩ := stp_ok hG hM1' c2
          have hw1 : LasM s1 A.L.sz (stp A.L g r (4 * l + j) x).1.bt (some (g, 4 * l + j, x.1.hp g (4 * l + j))) := by
            refine ⟨a3, a4, fun z h1 h2 => ?_⟩
            rw [stp_bt hG]
            rw [show (4 * l + j) / 4 = l by omega, show (4 * l + j) % 4 = j by omega] at h2 ⊢
            exact a6 z h1 h2
          obtain ⟨s', k1, k2, k3, k4, k5, k6, k7, k8⟩ := ih n (j + 1) (c + 1) (H + 1) s1 (stp A.L g r (4 * l + j) x) (some (g, 4 * l + j, x.1.hp g (4 * l + j))) rest (by omega) (by omega) (by omega) (by omega) a2 (by rw [a7]; exact hf) b1 hw1
          exact ⟨s', k1, k2, k3, k4.up (by rw [List.length_cons]; omega), k5, k6.trans a7, k7.trans a5, a8.tr k8⟩
theorem M_g15_lp (hG : Gr g r) (hq : q ≤ 40) (hoff : off ≤ 64) (wl : WL A.L) (hHM : HM < 999999) {sr : Nat} (hsr : sr < 3) {kk : Int32 → Mem → RR} : ∀ (m n l c H : Nat) (s : Mem) (x : Sto × Bxs) (w : Option (Nat × Nat × Nat)) (rest : List Nat), l + m = A.L.n → m < n → c ≤ 40 → H + (ltsF A.L f sr m l ++ rest).length ≤ HM → RM s (ABx A x) → (∀ p, p < 4 * A.L.n → s.1 60 0 (off + p) = bI (f p)) → MI A.L x.1 x.2 H g r (ltsF A.L f sr m l ++ rest) → LasM s A.L.sz x.1.bt w →
    ∃ s', lp_M_give_15 (nI g) (nI r) (nI q) (nI off) (nI sr) kk n (nI c) (nI l) s = kk (nI (mvA A.L g r q (ltsF A.L f sr m l) x c w).2.1) s' ∧ RM s' (ABx A (mvA A.L g r q (ltsF A.L f sr m l) x c w).1) ∧ LasM s' A.L.sz (mvA A.L g r q (ltsF A.L f sr m l) x c w).1.1.bt (mvA A.L g r q (ltsF A.L f sr m l) x c w).2.2 ∧ MI A.L (mvA A.L g r q (ltsF A.L f sr m l) x c w).1.1 (mvA A.L g r q (ltsF A.L f sr m l) x c w).1.2 (H + (ltsF A.L f sr m l).length) g r rest ∧ (mvA A.L g r q (ltsF A.L f sr m l) x c w).2.1 ≤ 40 ∧ s'.1 60 = s.1 60 ∧ s'.1 30 0 31 = s.1 30 0 31 ∧ FrN s s' := by
  have n16 := wl.n16
  intro m
  induction m with
  | zero =>
    intro n l c H s x w rest hl hn hc hH hR hf hM hw
    obtain ⟨n, rfl⟩ : ∃ n', n = n' + 1 := ⟨n - 1, by omega⟩
    have h7 : s.1 30 0 7 = nI A.L.n := hR.ltr.n
    unfold lp_M_give_15
    rw [gf_ok, h7, if_pos (by simp (disch := omega) only [qI_lit, qI_m1, qI_add, qI_mul, qI_le, qI_lt, qI_inj, qI_ne_m, m_ne_nI, m_lt_nI, m_le_nI, qI_lt_m, qI_le_m, qI_sub, qI_div, qI_rem, bI_0, bI_1]; omega)]
    exact ⟨s, rfl, hR, hw, hM, hc, rfl, rfl, FrN.rf⟩
  | succ m ih =>
    intro n l c H s x w rest hl hn hc hH hR hf hM hw
    obtain ⟨n, rfl⟩ : ∃ n', n = n' + 1 := ⟨n - 1, by omega⟩
    have h7 : s.1 30 0 7 = nI A.L.n := hR.ltr.n
    have e1 : nI l + 1 = nI (l + 1) := by simp (disch := omega) only [qI_lit, qI_m1, qI_add, qI_mul, qI_le, qI_lt, qI_inj, qI_ne_m, m_ne_nI, m_lt_nI, m_le_nI, qI_lt_m, qI_le_m, qI_sub, qI_div, qI_rem, bI_0, bI_1]
    have hs3 := wl.srt l (by omega)
    have v0 : ltsF A.L f sr (m + 1) l = (if A.L.srt l = sr then pcsF f l 4 0 else []) ++ ltsF A.L f sr m (l + 1) := rfl
    rw [v0, List.append_assoc] at hM hH
    rw [v0]
    unfold lp_M_give_15
    rw [gf_ok, h7, if_neg (by simp (disch := omega) only [qI_lit, qI_m1, qI_add, qI_mul, qI_le, qI_lt, qI_inj, qI_ne_m, m_ne_nI, m_lt_nI, m_le_nI, qI_lt_m, qI_le_m, qI_sub, qI_div, qI_rem, bI_0, bI_1]; omega), e1]
    by_cases c1 : A.L.srt l = sr
    · rw [if_pos c1] at hM hH ⊢
      obtain ⟨s1, k1, k2, k3, k4, k5, k6, k7, k8⟩ := M_g27_lp (f := f) (off := off) (q := q) hG hq hoff wl hHM (show l < A.L.n by omega) c1 (kk := fun x5_27 s27 => lp_M_give_15 (nI g) (nI r) (nI q) (nI off) (nI sr) kk n x5_27 (nI (l + 1)) s27) 4 FU 0 c H s x w (ltsF A.L f sr m (l + 1) ++ rest) (by omega) (by unfold FU; omega) hc hH hR hf hM hw
      rw [List.length_append] at hH
      obtain ⟨s2, a1, a2, a3, a4, a5, a6, a7, a8⟩ := ih n (l + 1) _ _ s1 _ _ rest (by omega) (by omega) k5 (by omega) k2 (by rw [k6]; exact hf) k4 k3
      rw [mvA_app]
      exact ⟨s2, k1.trans a1, a2, a3, by rw [List.length_append, ← Nat.add_assoc]; exact a4, a5, a6.trans k6, a7.trans k7, k8.tr a8⟩
    · rw [if_neg c1] at hM hH ⊢
      have h37 : s.1 37 0 l = nI (A.L.srt l) := hR.ltr.srt l (show l < A.L.n by omega)
      have e2 : lp_M_give_27 (nI g) (nI r) (nI q) (nI off) (nI sr) (nI l) (fun x5_27 s27 => lp_M_give_15 (nI g) (nI r) (nI q) (nI off) (nI sr) kk n x5_27 (nI (l + 1)) s27) (99999 + 1) (nI c) (nI 0) s = lp_M_give_15 (nI g) (nI r) (nI q) (nI off) (nI sr) kk n (nI c) (nI (l + 1)) s := by
        unfold lp_M_give_27
        rw [if_neg (by decide), ld_ok (by omega) (by omega), h37, if_pos (by rw [qI_inj (by omega) (by omega)]; exact c1)]
      obtain ⟨s2, a1, a2⟩ := ih n (l + 1) c H s x w rest (by omega) (by omega) hc hH hR hf hM hw
      exact ⟨s2, (show lp_M_give_27 (nI g) (nI r) (nI q) (nI off) (nI sr) (nI l) (fun x5_27 s27 => lp_M_give_15 (nI g) (nI r) (nI q) (nI off) (nI sr) kk n x5_27 (nI (l + 1)) s27) FU (nI c) (nI 0) s = _ from e2.trans a1), a2⟩
theorem M_g6_lp (hG : Gr g r) (hq : q ≤ 40) (hoff : off ≤ 64) (wl : WL A.L) (hHM : HM < 999999) {kk : Int32 → Mem → RR} : ∀ (m n sr c H : Nat) (s : Mem) (x : Sto × Bxs) (w : Option (Nat × Nat × Nat)), sr + m = 3 → m < n → c ≤ 40 → H + (srtF A.L f m sr).length ≤ HM → RM s (ABx A x) → (∀ p, p < 4 * A.L.n → s.1 60 0 (off + p) = bI (f p)) → MI A.L x.1 x.2 H g r (srtF A.L f m sr) → LasM s A.L.sz x.1.bt w →
    ∃ s', lp_M_give_6 (nI g) (nI r) (nI q) (nI off) kk n (nI c) (nI sr) s = kk (nI (mvA A.L g r q (srtF A.L f m sr) x c w).2.1) s' ∧ RM s' (ABx A (mvA A.L g r q (srtF A.L f m sr) x c w).1) ∧ LasM s' A.L.sz (mvA A.L g r q (srtF A.L f m sr) x c w).1.1.bt (mvA A.L g r q (srtF A.L f m sr) x c w).2.2 ∧ s'.1 60 = s.1 60 ∧ s'.1 30 0 31 = s.1 30 0 31 ∧ FrN s s' := by
  have n16 := wl.n16
  intro m
  induction m with
  | zero =>
    intro n sr c H s x w hs hn hc hH hR hf hM hw
    obtain ⟨n, rfl⟩ : ∃ n', n = n' + 1 := ⟨n - 1, by omega⟩
    unfold lp_M_give_6
    rw [if_pos (by simp (disch := omega) only [qI_lit, qI_m1, qI_add, qI_mul, qI_le, qI_lt, qI_inj, qI_ne_m, m_ne_nI, m_lt_nI, m_le_nI, qI_lt_m, qI_le_m, qI_sub, qI_div, qI_rem, bI_0, bI_1]; omega)]
    exact ⟨s, rfl, hR, hw, rfl, rfl, FrN.rf⟩
  | succ m ih =>
    intro n sr c H s x w hs hn hc hH hR hf hM hw
    obtain ⟨n, rfl⟩ : ∃ n', n = n' + 1 := ⟨n - 1, by omega⟩
    have e1 : nI sr + 1 = nI (sr + 1) := by simp (disch := omega) only [qI_lit, qI_m1, qI_add, qI_mul, qI_le, qI_lt, qI_inj, qI_ne_m, m_ne_nI, m_lt_nI, m_le_nI, qI_lt_m, qI_le_m, qI_sub, qI_div, qI_rem, bI_0, bI_1]
    have v0 : srtF A.L f (m + 1) sr = ltsF A.L f sr A.L.n 0 ++ srtF A.L f m (sr + 1) := rfl
    rw [v0] at hM hH
    rw [v0, mvA_app]
    unfold lp_M_give_6
    rw [if_neg (by simp (disch := omega) only [qI_lit, qI_m1, qI_add, qI_mul, qI_le, qI_lt, qI_inj, qI_ne_m, m_ne_nI, m_lt_nI, m_le_nI, qI_lt_m, qI_le_m, qI_sub, qI_div, qI_rem, bI_0, bI_1]; omega), e1]
    obtain ⟨s1, k1, k2, k3, k4, k5, k6, k7, k8⟩ := M_g15_lp (f := f) (off := off) (q := q) hG hq hoff wl hHM (show sr < 3 by omega) (kk := fun x5_15 s15 => lp_M_give_6 (nI g) (nI r) (nI q) (nI off) kk n x5_15 (nI (sr + 1)) s15) A.L.n FU 0 c H s x w (srtF A.L f m (sr + 1)) (by omega) (by unfold FU; omega) hc hH hR hf hM hw
    rw [List.length_append] at hH
    obtain ⟨s2, a1, a2, a3, a4, a5, a6⟩ := ih n (sr + 1) _ _ s1 _ _ (by omega) (by omega) k5 (by omega) k2 (by rw [k6]; exact hf) k4 k3
    exact ⟨s2, k1.trans a1, a2, a3, a4.trans k6, a5.trans k7, k8.tr a6⟩
theorem M_give (hG : Gr g r) (hq : q ≤ 40) (hoff : off ≤ 64) (wl : WL A.L) {H : Nat} {s : Mem} {x : Sto × Bxs} {w : Option (Nat × Nat × Nat)} (hH : H + (ofs A.L f).length < 999999) (hR : RM s (ABx A x)) (hf : ∀ p, p < 4 * A.L.n → s.1 60 0 (off + p) = bI (f p)) (hM : MI A.L x.1 x.2 H g r (ofs A.L f)) (hw : LasM s A.L.sz x.1.bt w) :
    ∃ s', f_M_give (nI g) (nI r) (nI q) (nI off) s = mm_ri (nI (mvA A.L g r q (ofs A.L f) x 0 w).2.1) s' ∧ RM s' (ABx A (mvA A.L g r q (ofs A.L f) x 0 w).1) ∧ LasM s' A.L.sz (mvA A.L g r q (ofs A.L f) x 0 w).1.1.bt (mvA A.L g r q (ofs A.L f) x 0 w).2.2 ∧ s'.1 60 = s.1 60 ∧ s'.1 30 0 31 = s.1 30 0 31 ∧ FrN s s' := by
  unfold f_M_give
  exact M_g6_lp hG hq hoff wl hH (kk := fun x s => mm_ri x s) 3 FU 0 0 H s x w (by omega) (by unfold FU; omega) (by omega) (Nat.le_refl _) hR hf hM hw
end

-- a meeting
theorem mvA_last {L : Lts} {g r q : Nat} : ∀ (ps : List Nat) (x : Sto × Bxs) (c : Nat) (w : Option (Nat × Nat × Nat)), ((mvA L g r q ps x c w).2.1 = c ∧ (mvA L g r q ps x c w).2.2 = w) ∨ (c < (mvA L g r q ps x c w).2.1 ∧ (mvA L g r q ps x c w).2.2 ≠ none) := by
  intro ps
  induction ps with
  | nil => intro x c w; exact .inl ⟨rfl, rfl⟩
  | cons p ps ih =>
    intro x c w
    rw [mvA_cons]
    by_cases h : q ≤ c
    · rw [if_pos h]; exact .inl ⟨rfl, rfl⟩
    · rw [if_neg h]
      by_cases h2 : cN (x.1.cp r) 64 = capa r
      · rw [if_pos h2]; exact ih _ _ _
      · rw [if_neg h2]
        rcases ih (stp L g r p x) (c + 1) (some (g, p, x.1.hp g p)) with ⟨a1, a2⟩ | ⟨a1, a2⟩
        · exact .inr ⟨by omega, by rw [a2]; exact fun h => nomatch h⟩
        · exact .inr ⟨by omega, a2⟩
def shS (A : Ab) (b k : Nat) : Sto := oShare A.L A.S b k
def mT (A : Ab) (b k : Nat) : List Hlt := A.T ((shS A b k).held b)
def mO0 (A : Ab) (b k : Nat) : List Nat := ofs A.L (f0F (mT A b k) A.L (shS A b k) b k A.now)
def mO1 (A : Ab) (b k : Nat) : List Nat := ofs A.L (f1F (mT A b k) A.L (shS A b k) b k A.now)
def mY0 (A : Ab) (b k q : Nat) : (Sto × Bxs) × Nat × Option (Nat × Nat × Nat) := mvA A.L b k q (mO0 A b k) (shS A b k, A.B) 0 none
def mY1 (A : Ab) (b k q : Nat) : (Sto × Bxs) × Nat × Option (Nat × Nat × Nat) := mvA A.L k b q (mO1 A b k) (mY0 A b k q).1 0 (mY0 A b k q).2.2
def mN (A : Ab) (b k q : Nat) : Nat := (mY0 A b k q).2.1 + (mY1 A b k q).2.1
theorem m_none (A : Ab) (b k q : Nat) : (mY1 A b k q).2.2 = none ↔ mN A b k q = 0 := by
  unfold mN
  rcases mvA_last (L := A.L) (g := b) (r := k) (q := q) (mO0 A b k) (shS A b k, A.B) 0 none with ⟨a1, a2⟩ | ⟨a1, a2⟩
  · have a1' : (mY0 A b k q).2.1 = 0 := a1
    have a2' : (mY0 A b k q).2.2 = none := a2
    rcases mvA_last (L := A.L) (g := k) (r := b) (q := q) (mO1 A b k) (mY0 A b k q).1 0 (mY0 A b k q).2.2 with ⟨b1, b2⟩ | ⟨b1, b2⟩
    · have b1' : (mY1 A b k q).2.1 = 0 := b1
      have b2' : (mY1 A b k q).2.2 = (mY0 A b k q).2.2 := b2
      rw [b2', a2']; exact ⟨fun _ => by omega, fun _ => rfl⟩
    · have b1' : 0 < (mY1 A b k q).2.1 := b1
      have b2' : (mY1 A b k q).2.2 ≠ none := b2
      exact ⟨fun h => absurd h b2', fun h => by omega⟩
  · have a1' : 0 < (mY0 A b k q).2.1 := a1
    have a2' : (mY0 A b k q).2.2 ≠ none := a2
    rcases mvA_last (L := A.L) (g := k) (r := b) (q := q) (mO1 A b k) (mY0 A b k q).1 0 (mY0 A b k q).2.2 with ⟨b1, b2⟩ | ⟨b1, b2⟩
    · have b2' : (mY1 A b k q).2.2 = (mY0 A b k q).2.2 := b2
      rw [b2']; exact ⟨fun h => absurd h a2', fun h => by omega⟩
    · have b2' : (mY1 A b k q).2.2 ≠ none := b2
      exact ⟨fun h => absurd h b2', fun h => by omega⟩
section
variable {s : Mem} {A : Ab} {c b k q : Nat} {x1 x2 x3 : Int32}
theorem Gr_bk (hb : 8 ≤ b ∧ b < 12) (hk : k < 8) : Gr b k := ⟨hb.2, by omega, by omega, by rw [if_neg (by omega), if_pos hk]; decide⟩
theorem Gr_kb (hb : 8 ≤ b ∧ b < 12) (hk : k < 8) : Gr k b := ⟨by omega, hb.2, by omega, by rw [if_pos hk, if_neg (by omega)]; decide⟩
theorem tim_held (hbk : b ≠ k) {S : Sto} : (oTim S b k).held b = max (S.held b) (S.held k) ∧ (oTim S b k).held k = max (S.held b) (S.held k) := by
  refine ⟨?_, ?_⟩
  · show u1 (u1 S.held b _) k _ b = _
    rw [u1_ne hbk, u1_at]
  · show u1 (u1 S.held b _) k _ k = _
    rw [u1_at]
theorem sh_held (hW : WF A c) (hb : 8 ≤ b ∧ b < 12) (hk : k < 8) : (shS A b k).held b = (shS A b k).held k ∧ (∀ i, (shS A b k).held i ≤ A.pubs) := by
  obtain ⟨_, _, _, _, h5⟩ := share_ok (b := b) (k := k) hW.wk hW.ws (by omega) hk
  have h5' : (shS A b k).held = (oTim A.S b k).held := h5
  obtain ⟨h6, h7⟩ := tim_held (S := A.S) (show b ≠ k by omega)
  refine ⟨by rw [h5', h6, h7], fun i => ?_⟩
  rw [h5']
  show u1 (u1 A.S.held b _) k _ i ≤ _
  have a1 := hW.hel b
  have a2 := hW.hel k
  by_cases e : i = k
  · rw [e, u1_at]; omega
  · rw [u1_ne e]
    by_cases e2 : i = b
    · rw [e2, u1_at]; omega
    · rw [u1_ne e2]; exact hW.hel i
theorem MI0 (hW : WF A c) (hb : 8 ≤ b ∧ b < 12) (hk : k < 8) (hv : ∀ i p, (shS A b k).cp i p = true → (shS A b k).vb i p = true) : MI A.L (shS A b k) A.B (128 * c) b k (mO0 A b k) := by
  obtain ⟨h1, h2, h3, h4, _⟩ := share_ok (b := b) (k := k) hW.wk hW.ws (by omega) hk
  have hm : ∀ p ∈ mO0 A b k, (shS A b k).cp b p = true := by
    intro p hp
    have := (srt_mem 3 0 hp).1
    unfold f0F at this
    rw [Bool.and_eq_true] at this
    exact this.2
  refine ⟨h1, h2, srt_nd 3 0, hm, fun p hp => ?_, fun p hp => ?_, hv⟩
  · cases hz : (shS A b k).cp k p with
    | false => rfl
    | true => exact absurd ⟨hm p hp, hz⟩ (h4 p)
  · have e1 : (shS A b k).kn b (p / 4) = (shS A b k).kn k (p / 4) := h3 _
    rw [← e1]
    cases hz : (shS A b k).kn b (p / 4) with
    | zero => rfl
    | succ z =>
      have h9 : (shS A b k).cp b p = false := h2.kn0 b p (by show (shS A b k).kn b (p / 4) ≠ 0; rw [hz]; exact Nat.succ_ne_zero _)
      rw [hm p hp] at h9; cases h9
theorem off_dis (hb : 8 ≤ b ∧ b < 12) {p p' : Nat} (h0 : p ∈ mO0 A b k) (h1 : p' ∈ mO1 A b k) : p' / 4 ≠ p / 4 := by
  have a0 := (srt_mem 3 0 h0).1
  have a1 := (srt_mem 3 0 h1).1
  unfold f0F oBf at a0
  unfold f1F oKf at a1
  rw [Bool.and_eq_true] at a0 a1
  intro e
  rw [e] at a1
  have b0 := of_decide_eq_true a0.1
  have b1 := of_decide_eq_true a1.1
  exact b0.elim b1.1 b1.2.2
theorem MI1 (hW : WF A c) (hb : 8 ≤ b ∧ b < 12) (hk : k < 8) (hv : ∀ i p, (shS A b k).cp i p = true → (shS A b k).vb i p = true) : MI A.L (mY0 A b k q).1.1 (mY0 A b k q).1.2 (128 * c + (mO0 A b k).length) k b (mO1 A b k) ∧ LI A.L (mY0 A b k q).1.1 (mY0 A b k q).2.2 ∧ (mY0 A b k q).1.1.held = (shS A b k).held ∧ (mY0 A b k q).2.1 ≤ max 0 q := by
  obtain ⟨h1, h2, h3, h4, _⟩ := share_ok (b := b) (k := k) hW.wk hW.ws (by omega) hk
  obtain ⟨a1, a2, a3, a4, a5, a6, a7, a8⟩ := mvA_ok (Gr_bk hb hk) (q := q) (mO0 A b k) (shS A b k) A.B 0 (128 * c) none (MI0 hW hb hk hv) trivial
  have hm : ∀ p ∈ mO1 A b k, (shS A b k).cp k p = true := by
    intro p hp
    have := (srt_mem 3 0 hp).1
    unfold f1F at this
    rw [Bool.and_eq_true] at this
    exact this.2
  refine ⟨⟨a1, a2, srt_nd 3 0, fun p hp => ?_, fun p hp => ?_, fun p hp => ?_, a6⟩, a3, a7, a8.2⟩
  · have e : (mY0 A b k q).1.1.cp k p = (shS A b k).cp k p := a4 k p (fun p' hp' => off_dis hb hp' hp)
    rw [e]; exact hm p hp
  · have e : (mY0 A b k q).1.1.cp b p = (shS A b k).cp b p := a4 b p (fun p' hp' => off_dis hb hp' hp)
    rw [e]
    cases hz : (shS A b k).cp b p with
    | false => rfl
    | true => exact absurd ⟨hz, hm p hp⟩ (h4 p)
  · have e : (mY0 A b k q).1.1.kn b (p / 4) = (shS A b k).kn b (p / 4) := a5 b _ (.inl (by omega))
    have e1 : (shS A b k).kn b (p / 4) = (shS A b k).kn k (p / 4) := h3 _
    rw [e, e1]
    cases hz : (shS A b k).kn k (p / 4) with
    | zero => rfl
    | succ z =>
      have h9 : (shS A b k).cp k p = false := h2.kn0 k p (by show (shS A b k).kn k (p / 4) ≠ 0; rw [hz]; exact Nat.succ_ne_zero _)
      rw [hm p hp] at h9; cases h9
theorem X_hold (hX : RX s A) (hW : WF A c) (hc6 : c ≤ 600) (hb : 8 ≤ b ∧ b < 12) (hk : k < 8) (hq : q ≤ 40) :
    ∃ s', f_X_hold (nI b) (nI k) (nI q) s = mm_ri (nI (mN A b k q)) s' ∧ RX s' (ABx A (mY1 A b k q).1) ∧ LasX s' (mY1 A b k q).2.2 ∧ FrC s s' ∧ (∀ g, cmK (mT A b k) k (A.now + 1) g ≤ LATE) ∧ (∀ g, cmB (mT A b k) b A.now g ≤ LATE) ∧ (mO0 A b k).length ≤ 24 ∧ (mO1 A b k).length ≤ 24 ∧ (∀ i p, (shS A b k).cp i p = true → (shS A b k).vb i p = true) := by
  have hnow := hW.now
  have hpub := hW.pub
  obtain ⟨wk1, ws1, _⟩ := share_ok (b := b) (k := k) hW.wk hW.ws (by omega) hk
  obtain ⟨hh1, hh2⟩ := sh_held hW hb hk
  obtain ⟨s1, e1, h1, f1⟩ := X_share (b := b) (k := k) (now := A.now) (L := A.L) (B := A.B) (H := 128 * c) hX.sto hX.ltr hb.2 (by omega) hk hW.wk hW.ws (by omega) (fun i => Nat.le_trans (hW.hel i) hpub) (K := fun s28 => mm_cV (f_X_settleOffers (nI b) (nI k) s28) fun s34 => mm_cI (f_X_moveOffered 0 (nI b) (nI k) (nI q) s34) fun v45 s45 => mm_cI (f_X_moveOffered 1 (nI k) (nI b) (nI q) s45) fun v60 s60 => mm_ri (v45 + v60) s60)
  have hX1 : RX s1 (ABx A (shS A b k, A.B)) := hX.sto' f1 h1
  have hv : ∀ i p, (shS A b k).cp i p = true → (shS A b k).vb i p = true := h1.vcp
  have hb6 := hh2 b
  obtain ⟨s2, e2, o0, o1, f2, lK, lB, n0, n1⟩ := X_settle (A := ABx A (shS A b k, A.B)) (b := b) (k := k) (H := 128 * c) hX1 wk1.wl ws1 (hW.tab ((shS A b k).held b) (by omega)) hb hk (by show (shS A b k).held b ≤ 6; omega) (by show A.now ≤ _; omega)
  have n0' : (mO0 A b k).length ≤ 24 := n0
  have n1' : (mO1 A b k).length ≤ 24 := n1
  have hX2 : RX s2 (ABx A (shS A b k, A.B)) :=
    ⟨by rw [(f2 0 (by decide)).1]; exact hX1.clk, by rw [(f2 0 (by decide)).1]; exact hX1.pub, by rw [(f2 0 (by decide)).1]; exact hX1.tln, fun t ht => (hX1.tab t ht).elim fun L hL => ⟨L, hL.1.fr (f2 1 (by decide)).1 (f2 2 (by decide)).1 (f2 3 (by decide)).1 (f2 4 (by decide)).1, hL.2⟩,
      hX1.sto.fr (f2 7 (by decide)).1 (f2 8 (by decide)).1 (f2 9 (by decide)).1 (f2 10 (by decide)).2 (f2 11 (by decide)).1, hX1.ltr.fr (f2 0 (by decide)).1 (f2 19 (by decide)).1, hX1.box.fr (f2 15 (by decide)).1 (f2 16 (by decide)).1 (f2 17 (by decide)).1 (f2 20 (by decide)).2, by rw [(f2 21 (by decide)).2]; exact hX1.txb⟩
  have o0' : OfR s2 0 (mO0 A b k) := o0
  have o1' : OfR s2 1 (mO1 A b k) := o1
  obtain ⟨s3, e3, a1, a2, a3, a4, a5⟩ := X_moveOff (q := q) (w := none) (H := 128 * c) (Gr_bk hb hk) hq n0' (by omega) hX2 o0' (MI0 hW hb hk hv) trivial
  obtain ⟨m1, _, _, m2⟩ := MI1 (q := q) hW hb hk hv
  obtain ⟨s4, e4, b1, b2, b3, b4, b5⟩ := X_moveOff (q := q) (H := 128 * c + (mO0 A b k).length) (A := A) (x := (mY0 A b k q).1) (w := (mY0 A b k q).2.2) (Gr_kb hb hk) hq n1' (by omega) a1 (⟨by rw [a3]; exact o1'.cnt, by rw [a4]; exact o1'.row⟩ : OfR s3 1 (mO1 A b k)) m1 a2
  refine ⟨s4, ?_, b1, b2, (FrC.ss f1).tr (FrC.tr (b := s2) (fun F hF => f2 F (by omega)) (a5.tr b5)), lK, lB, n0', n1', hv⟩
  unfold f_X_hold
  rw [al_ok hb.2 (by omega), al_ok (by omega) (by omega)]
  refine Eq.trans ?_ (e1.trans ?_)
  · congr 1
    funext s12
    rw [al_ok hb.2 (by omega), al_ok (by omega) (by omega)]
  · rw [e2, cV_ok]
    have e3' : f_X_moveOffered 0 (nI b) (nI k) (nI q) s2 = mm_ri (nI (mY0 A b k q).2.1) s3 := e3
    have e4' : f_X_moveOffered 1 (nI k) (nI b) (nI q) s3 = mm_ri (nI (mY1 A b k q).2.1) s4 := e4
    rw [e3', cI_ok, e4', cI_ok, qI_add]; rfl
theorem M_meeting (hR : RM s A) (hW : WF A c) (hc6 : c ≤ 600) (hb : 8 ≤ b ∧ b < 12) (hk : k < 8) (hq : q ≤ 40) (lK : ∀ g, cmK (mT A b k) k (A.now + 1) g ≤ LATE) (lB : ∀ g, cmB (mT A b k) b A.now g ≤ LATE) (n0 : (mO0 A b k).length ≤ 24) (n1 : (mO1 A b k).length ≤ 24) (hv : ∀ i p, (shS A b k).cp i p = true → (shS A b k).vb i p = true) :
    ∃ s', f_M_meeting (nI b) (nI k) (nI q) s = mm_ri (nI (mN A b k q)) s' ∧ RM s' (ABx A (mY1 A b k q).1) ∧ LasM s' A.L.sz (mY1 A b k q).1.1.bt (mY1 A b k q).2.2 ∧ s'.1 30 0 31 = nI 0 ∧ FrN s s' := by
  have hnow := hW.now
  have hpub := hW.pub
  obtain ⟨wk1, ws1, _⟩ := share_ok (b := b) (k := k) hW.wk hW.ws (by omega) hk
  obtain ⟨hh1, hh2⟩ := sh_held hW hb hk
  have hk6 := hh2 k
  have hR0 : RM (mm_wI (mm_wI s 30 0 31 (nI 0)) 30 0 35 (-1)) A := (hR.thr (v := nI 0)).w30 (.inl rfl)
  obtain ⟨s1, e1, h1, f1⟩ := M_share (b := b) (k := k) (L := A.L) (B := A.B) (H := 128 * c) hR0.sto hR0.ltr hb.2 (by omega) hk hW.wk hW.ws (by omega) (fun i => Nat.le_trans (hW.hel i) hpub)
  have hR1 : RM s1 (ABx A (shS A b k, A.B)) := hR0.sto' f1 h1
  obtain ⟨s2, e2, h2, f2⟩ := M_settle (A := ABx A (shS A b k, A.B)) (b := b) (k := k) (T := mT A b k) hR1 wk1.wl ws1.kn0 ws1.k2 hb hk (by show A.T ((shS A b k).held k) = _; rw [← hh1]; rfl) (hW.tab ((shS A b k).held b) (by omega)) (by show (shS A b k).held k ≤ 6; omega) (by show A.now ≤ _; omega) lK lB
  have hR2 := hR1.frp f2
  have hl2 : LasM s2 A.L.sz (shS A b k).bt none := by
    show s2.1 30 0 35 = mone
    rw [(f2 30 (by decide)).1, (f1 30 (by decide)).1, wI_y]; rfl
  obtain ⟨s3, e3, a1, a2, a3, a4, a5⟩ := M_give (f := f0F (mT A b k) A.L (shS A b k) b k A.now) (off := 0) (q := q) (w := none) (H := 128 * c) (A := A) (x := (shS A b k, A.B)) (Gr_bk hb hk) hq (by decide) wk1.wl (by show 128 * c + (mO0 A b k).length < _; omega) hR2 (fun p hp => by rw [Nat.zero_add]; exact (h2 p hp).1) (MI0 hW hb hk hv) hl2
  obtain ⟨m1, _, _, m2⟩ := MI1 (q := q) hW hb hk hv
  obtain ⟨s4, e4, b1, b2, b3, b4, b5⟩ := M_give (f := f1F (mT A b k) A.L (shS A b k) b k A.now) (off := 64) (q := q) (H := 128 * c + (mO0 A b k).length) (A := A) (x := (mY0 A b k q).1) (w := (mY0 A b k q).2.2) (Gr_kb hb hk) hq (by decide) wk1.wl (by show 128 * c + (mO0 A b k).length + (mO1 A b k).length < _; omega) a1 (fun p hp => by rw [a3]; exact (h2 p hp).2) m1 a2
  have t1 : inR 8 12 (nI b) = true := by rw [inR_nI (by decide) (by decide) (by omega)]; exact decide_eq_true hb
  have t2 : inR 0 8 (nI k) = true := by rw [inR_nI (by decide) (by decide) (by omega)]; exact decide_eq_true ⟨Nat.zero_le _, hk⟩
  have t3 : inR 0 (40 + 1) (nI q) = true := by rw [inR_nI (by decide) (by decide) (by omega)]; exact decide_eq_true ⟨Nat.zero_le _, by omega⟩
  refine ⟨s4, ?_, b1, b2, ?_, ?_⟩
  · unfold f_M_meeting
    rw [M_isBus, cI_ok, jn_ok, t1, if_neg (by decide), M_isKiosk, cI_ok, t2, if_neg (by decide), show (40 : Int32) = nI 40 from rfl, M_upTo (by decide), cI_ok, t3, if_neg (by decide)]
    show (mm_pf s 30 0 31 (nI 0) fun s29 => mm_pf s29 30 0 35 ((-1 : Int32)) fun s34 => mm_gf s34 30 0 31 fun v38 => if v38 = 0 then (mm_cV (f_M_exchangeNews (nI b) (nI k) s34) fun s49 => mm_cV (f_M_settle (nI b) (nI k) s49) fun s55 => mm_cI (f_M_give (nI b) (nI k) (nI q) ((0 : Int32)) s55) fun v63 s63 => mm_cI (f_M_give (nI k) (nI b) (nI q) ((64 : Int32)) s63) fun v76 s76 => mm_ri (v63 + v76) s76) else mm_ri ((0 : Int32)) s34) = _
    have e3' : f_M_give (nI b) (nI k) (nI q) 0 s2 = mm_ri (nI (mY0 A b k q).2.1) s3 := e3
    have e4' : f_M_give (nI k) (nI b) (nI q) 64 s3 = mm_ri (nI (mY1 A b k q).2.1) s4 := e4
    rw [pf_ok, pf_ok, gf_ok, wI_k (by decide), wI_y, if_pos (by decide), e1, cV_ok, e2, cV_ok, e3', cI_ok, e4', cI_ok, qI_add]; rfl
  · rw [b4, a4, (f2 30 (by decide)).1, (f1 30 (by decide)).1, wI_k (by decide), wI_y]
  · refine FrN.tr (b := s1) (((FrN.wI (by decide)).tr (FrN.wI (by decide))).tr (FrN.qs f1)) (FrN.tr (b := s2) (fun F hF => f2 F (by omega)) (a5.tr b5))
theorem meet_WF (hW : WF A c) (hb : 8 ≤ b ∧ b < 12) (hk : k < 8) (n0 : (mO0 A b k).length ≤ 24) (n1 : (mO1 A b k).length ≤ 24) (hv : ∀ i p, (shS A b k).cp i p = true → (shS A b k).vb i p = true) : WF (ABx A (mY1 A b k q).1) (c + 1) ∧ LI A.L (mY1 A b k q).1.1 (mY1 A b k q).2.2 ∧ WS A.L (mY1 A b k q).1.1 (128 * c + 48) ∧ mN A b k q ≤ 2 * q := by
  obtain ⟨m1, l1, h1, h2⟩ := MI1 (q := q) hW hb hk hv
  obtain ⟨a1, a2, a3, a4, a5, a6, a7, a8⟩ := mvA_ok (Gr_kb hb hk) (q := q) (mO1 A b k) (mY0 A b k q).1.1 (mY0 A b k q).1.2 0 (128 * c + (mO0 A b k).length) (mY0 A b k q).2.2 m1 l1
  obtain ⟨_, hh2⟩ := sh_held hW hb hk
  have hws : WS A.L (mY1 A b k q).1.1 (128 * c + 48) := a2.mono (by omega)
  refine ⟨⟨by have := hW.now; show A.now ≤ _; omega, hW.pub, hW.tab, fun i => ?_, a1, hws.mono (by omega), hW.ps, hW.t32⟩, a3, hws, ?_⟩
  · show (mY1 A b k q).1.1.held i ≤ A.pubs
    have e : (mY1 A b k q).1.1.held = (mY0 A b k q).1.1.held := a7
    rw [e, h1]; exact hh2 i
  · unfold mN
    have a8' : (mY1 A b k q).2.1 ≤ max 0 q := a8.2
    omega
def mGd (x1 x2 x3 : Int32) : Bool := (inR 8 12 x1 && inR 0 8 x2) && inR 0 41 x3
theorem X_meet_g : f_X_meet x1 x2 x3 s = if mGd x1 x2 x3 then (mm_cI (f_X_hold x1 x2 x3 s) fun v35 s35 => mm_ri v35 s35) else mm_th 1 s := by
  unfold f_X_meet mGd
  rw [X_isBus, cI_ok, jn_ok]
  cases h1 : inR 8 12 x1 with
  | false => rw [if_pos (by decide)]; rfl
  | true =>
    rw [if_neg (by decide), X_isKiosk, cI_ok]
    cases h2 : inR 0 8 x2 with
    | false => rw [if_pos (by decide)]; rfl
    | true =>
      rw [if_neg (by decide), show (41 : Int32) = nI 41 from rfl, X_isWithin, cI_ok]
      cases h3 : inR 0 41 x3 with
      | false => rw [if_pos (by decide)]; rfl
      | true => rw [if_neg (by decide)]; rfl
theorem X_break_g : f_X_breakOff x1 x2 x3 s = if mGd x1 x2 x3 then (mm_cI (f_X_hold x1 x2 x3 s) fun v35 s35 => if v35 ≤ 0 then (mm_ri v35 s35) else (mm_gf s35 0 0 14 fun v50 => mm_al 12 v50 fun j53 => mm_gf s35 0 0 15 fun v55 => mm_cV (f_S_unlearn j53 v55 s35) fun s58 => mm_ri v35 s58)) else mm_th 1 s := by
  unfold f_X_breakOff mGd
  rw [X_isBus, cI_ok, jn_ok]
  cases h1 : inR 8 12 x1 with
  | false => rw [if_pos (by decide)]; rfl
  | true =>
    rw [if_neg (by decide), X_isKiosk, cI_ok]
    cases h2 : inR 0 8 x2 with
    | false => rw [if_pos (by decide)]; rfl
    | true =>
      rw [if_neg (by decide), show (41 : Int32) = nI 41 from rfl, X_isWithin, cI_ok]
      cases h3 : inR 0 41 x3 with
      | false => rw [if_pos (by decide)]; rfl
      | true => rw [if_neg (by decide)]; rfl
theorem M_meeting_no (hg : mGd x1 x2 x3 = false) : f_M_meeting x1 x2 x3 s = mm_ri 0 (mm_wI (mm_wI s 30 0 31 (nI 1)) 30 0 35 (-1)) := by
  have key : (mm_pf s 30 0 31 (1 : Int32) fun s29 => mm_pf s29 30 0 35 ((-1 : Int32)) fun s34 => mm_gf s34 30 0 31 fun v38 => if v38 = 0 then (mm_cV (f_M_exchangeNews x1 x2 s34) fun s49 => mm_cV (f_M_settle x1 x2 s49) fun s55 => mm_cI (f_M_give x1 x2 x3 ((0 : Int32)) s55) fun v63 s63 => mm_cI (f_M_give x2 x1 x3 ((64 : Int32)) s63) fun v76 s76 => mm_ri (v63 + v76) s76) else mm_ri ((0 : Int32)) s34) = mm_ri 0 (mm_wI (mm_wI s 30 0 31 (nI 1)) 30 0 35 (-1)) := by
    rw [pf_ok, pf_ok, gf_ok, wI_k (by decide), wI_y, if_neg (by decide)]; rfl
  unfold mGd at hg
  unfold f_M_meeting
  rw [M_isBus, cI_ok, jn_ok]
  cases h1 : inR 8 12 x1 with
  | false => rw [if_pos (by decide)]; exact key
  | true =>
    rw [if_neg (by decide), M_isKiosk, cI_ok]
    cases h2 : inR 0 8 x2 with
    | false => rw [if_pos (by decide)]; exact key
    | true =>
      rw [h1, h2] at hg
      have h3 : inR 0 (40 + 1) x3 = false := hg
      rw [if_neg (by decide), show (40 : Int32) = nI 40 from rfl, M_upTo (by decide), cI_ok, h3, if_pos (by decide)]; exact key
theorem call_meet (hX : RX s A) (hW : WF A c) (hc6 : c ≤ 600) : Agr (f_X_meet x1 x2 x3) (f_M_meet x1 x2 x3) 2 1 1 s A c := by
  cases hg : mGd x1 x2 x3 with
  | false =>
    refine Agr.no hX hW (e := 1) (by decide) (by decide) (by rw [X_meet_g, hg]; rfl) fun t ht => ⟨0, mm_wI (mm_wI t 30 0 31 (nI 1)) 30 0 35 (-1), ?_, ?_, ht.thr.w30 (.inl rfl), (FrN.wI (by decide)).tr (FrN.wI (by decide))⟩
    · unfold f_M_meet; rw [M_meeting_no hg, cI_ok]
    · rw [wI_k (by decide), wI_y]
  | true =>
    have hg' := hg
    unfold mGd at hg
    simp only [Bool.and_eq_true] at hg
    obtain ⟨⟨h1, h2⟩, h3⟩ := hg
    obtain ⟨b, hb1, hb2, rfl⟩ := inR_get (by decide) (by decide) h1
    obtain ⟨k, _, hk, rfl⟩ := inR_get (by decide) (by decide) h2
    obtain ⟨q, _, hq, rfl⟩ := inR_get (by decide) (by decide) h3
    obtain ⟨s1, e1, k1, k2, f1, lK, lB, n0, n1, hv⟩ := X_hold (q := q) hX hW hc6 ⟨hb1, hb2⟩ hk (by omega)
    obtain ⟨hW1, _, _, _⟩ := meet_WF (q := q) hW ⟨hb1, hb2⟩ hk n0 n1 hv
    refine Agr.yes (by decide) hW1 (s' := s1) (v := nI (mN A b k q)) (by rw [X_meet_g, hg', if_pos rfl, e1, cI_ok]) k1 f1 fun t ht => ?_
    obtain ⟨t1, e2, g1, g2, g3, g4⟩ := M_meeting (q := q) ht hW hc6 ⟨hb1, hb2⟩ hk (by omega) lK lB n0 n1 hv
    exact ⟨t1, by unfold f_M_meet; rw [e2, cI_ok], g3, g1, g4⟩
end

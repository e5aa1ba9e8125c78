-- a look keeps the pictures well formed
theorem cN_mono {f g : Nat → Bool} {n : Nat} (h : ∀ k, k < n → f k = true → g k = true) : cN f n ≤ cN g n := by
  induction n with
  | zero => exact Nat.le_refl _
  | succ n ih =>
    simp only [cN]
    have h1 := ih fun k hk => h k (by omega)
    cases hf : f n with
    | false => simp; omega
    | true => rw [h n (by omega) hf]; simp; exact h1
/-- fewer copies, news of letters changed -/
theorem WS.less {L : Lts} {S : Sto} {H : Nat} (h : WS L S H) {cp : Nat → Nat → Bool} {kn : Nat → Nat → Nat} (hc : ∀ i k, cp i k = true → S.cp i k = true) (h0 : ∀ i k, kn i (k / 4) ≠ 0 → cp i k = false) (h2 : ∀ i l, kn i l ≤ 2) (hn : ∀ i l, L.n ≤ l → kn i l = 0) : WS L (mkSto (cp) S.vb S.hp S.nw (kn) S.bt S.held S.ea S.rf) H :=
  ⟨fun i hi => Nat.le_trans (cN_mono fun k _ => hc i k) (h.cap i hi), fun i k hk => h.cpn i k (hc i k hk), fun i k hk => h.nhp i k (hc i k hk), fun i k hk => h.par i k (hc i k hk), h0, h2, hn, h.nwn, h.vbn, h.hb, h.nb⟩
section
variable {L : Lts} {S : Sto} {B : Bxs} {l H : Nat}
theorem lk_ok (wk : WK L S B) (ws : WS L S H) (hl : l < L.n) : LkOk L S B l := by
  have h1 := wk.wl.s1 l hl
  refine ⟨fun hk hc => ?_, ws.k2 _ _, fun p hp h4 => ?_, wk.dlk l⟩
  · have h2 := hc 0 (by unfold pc; omega)
    have h3 := ws.kn0 (L.gl l) (4 * l + 0) (by rw [show (4 * l + 0) / 4 = l by omega]; exact hk)
    rw [h2] at h3; cases h3
  · cases hc : S.cp (L.gl l) (4 * l + p) with
    | false => rfl
    | true =>
      have h2 := (ws.cpn _ _ hc).2
      rw [show (4 * l + p) / 4 = l by omega, show (4 * l + p) % 4 = p by omega] at h2
      omega
theorem WS_learn (ws : WS L S H) {i w : Nat} (hl : l < L.n) (hw : w ≤ 2) : WS L (oLearn S i l w) H := by
  have hk2 : ∀ i' l', u2 S.kn i l w i' l' ≤ 2 := by
    intro i' l'
    by_cases e : i' = i ∧ l' = l
    · rw [e.1, e.2, u2_at]; exact hw
    · rw [u2_ne e]; exact ws.k2 _ _
  have hkn : ∀ i' l', L.n ≤ l' → u2 S.kn i l w i' l' = 0 := fun i' l' h => by rw [u2_ne (by omega)]; exact ws.knn _ _ h
  unfold oLearn
  by_cases e : w = 0
  · rw [if_pos e]
    refine ws.less (cp := S.cp) (fun _ _ h => h) (fun i' k h => ?_) hk2 hkn
    by_cases e' : i' = i ∧ k / 4 = l
    · rw [e'.1, e'.2, u2_at] at h; exact absurd e h
    · rw [u2_ne e'] at h; exact ws.kn0 _ _ h
  · rw [if_neg e]
    refine ws.less (cp := fun i' k' => if i' = i ∧ k' / 4 = l then false else S.cp i' k') (fun i' k h => ?_) (fun i' k h => ?_) hk2 hkn
    · by_cases e' : i' = i ∧ k / 4 = l
      · simp only [if_pos e'] at h; cases h
      · simp only [if_neg e'] at h; exact h
    · have h : u2 S.kn i l w i' (k / 4) ≠ 0 := h
      by_cases e' : i' = i ∧ k / 4 = l
      · simp only [if_pos e']
      · rw [u2_ne e'] at h; simp only [if_neg e']; exact ws.kn0 _ _ h
theorem kn_learn {i w : Nat} : (oLearn S i l w).kn = u2 S.kn i l w := by
  unfold oLearn; split <;> rfl
theorem held_learn {i w : Nat} : (oLearn S i l w).held = S.held := by
  unfold oLearn; split <;> rfl
theorem put_lies {a : Bool} {b x : Nat} : (oPutIf B a b l).lies x = B.lies x ∨ ((oPutIf B a b l).lies x = B.lies x ++ [l] ∧ x = b) := by
  unfold oPutIf; split
  · show u1 B.lies b (B.lies b ++ [l]) x = _ ∨ (u1 B.lies b (B.lies b ++ [l]) x = _ ∧ _)
    by_cases e : x = b
    · rw [e, u1_at]; exact .inr ⟨rfl, rfl⟩
    · rw [u1_ne e]; exact .inl rfl
  · exact .inl rfl
theorem put3_lies {g : Nat} {a0 a1 a2 : Bool} (x : Nat) : (oPut3 B g l a0 a1 a2).lies x = B.lies x ∨ (oPut3 B g l a0 a1 a2).lies x = B.lies x ++ [l] := by
  unfold oPut3
  rcases put_lies (B := oPutIf (oPutIf B a0 (3 * g + 0) l) a1 (3 * g + 1) l) (l := l) (a := a2) (b := 3 * g + 2) (x := x) with h | ⟨h, e⟩
  · rw [h]
    rcases put_lies (B := oPutIf B a0 (3 * g + 0) l) (l := l) (a := a1) (b := 3 * g + 1) (x := x) with h | ⟨h, e⟩
    · rw [h]
      rcases put_lies (B := B) (l := l) (a := a0) (b := 3 * g + 0) (x := x) with h | ⟨h, e⟩
      · exact .inl h
      · exact .inr h
    · rw [h, oPutIf_other (by omega)]; exact .inr rfl
  · rw [h, oPutIf_other (by omega), oPutIf_other (by omega)]; exact .inr rfl
theorem put_quo {a : Bool} {b : Nat} : (oPutIf B a b l).quo = B.quo := by unfold oPutIf; split <;> rfl
theorem put3_quo {g : Nat} {a0 a1 a2 : Bool} : (oPut3 B g l a0 a1 a2).quo = B.quo := by unfold oPut3; rw [put_quo, put_quo, put_quo]
theorem look_ok (wk : WK L S B) (ws : WS L S H) (hl : l < L.n) : WK L (look L l (S, B)).1 (look L l (S, B)).2 ∧ WS L (look L l (S, B)).1 H := by
  have ok := lk_ok wk ws hl
  have h16 := wk.wl.n16
  unfold look
  by_cases hc : comp L S l
  · rw [if_pos hc]
    have hdl : B.dl l = false := by
      cases h : B.dl l with
      | false => rfl
      | true => exact absurd hc (ok.kn (ok.dl h))
    have key : ∀ w, w ≠ 0 → ∀ l', B.dl l' = true ∨ l' = l → u2 S.kn (L.gl l) l w (L.gl l') l' ≠ 0 := by
      intro w hw l' h
      by_cases e : l' = l
      · rw [e, u2_at]; exact hw
      · rw [u2_ne (fun h9 => e h9.2)]
        exact wk.dlk l' (h.resolve_right e)
    split
    · split
      · show WK L (oLearn S (L.gl l) l 1) (oDel L S B l) ∧ WS L (oLearn S (L.gl l) l 1) H
        have hws : WS L (oLearn S (L.gl l) l 1) H := WS_learn ws hl (Nat.le_succ 1)
        refine ⟨⟨wk.wl, ⟨fun b => ?_, fun b x hx => ?_, fun b q hq => ?_⟩, fun l' h => ?_, fun l' h => ?_⟩, hws⟩
        · show ((oPut3 B (L.gl l) l _ _ _).lies b).length ≤ cN (u1 B.dl l true) 16
          rw [cN_up (by omega) hdl]
          have := wk.wb.len b
          rcases put3_lies (B := B) (l := l) (g := L.gl l) (a0 := adr L B l 0) (a1 := adr L B l 1) (a2 := adr L B l 2) b with h | h
          · rw [h]; omega
          · rw [h, List.length_append]; show _ + 1 ≤ _; omega
        · have hx' : x ∈ (oPut3 B (L.gl l) l (adr L B l 0) (adr L B l 1) (adr L B l 2)).lies b := hx
          show x < L.n ∧ u1 B.dl l true x = true
          have : x ∈ B.lies b ∨ x = l := by
            rcases put3_lies (B := B) (l := l) (g := L.gl l) (a0 := adr L B l 0) (a1 := adr L B l 1) (a2 := adr L B l 2) b with h | h
            · rw [h] at hx'; exact .inl hx'
            · rw [h] at hx'
              rcases List.mem_append.mp hx' with h | h
              · exact .inl h
              · exact .inr (List.mem_singleton.mp h)
          by_cases e : x = l
          · rw [e, u1_at]; exact ⟨hl, rfl⟩
          · rw [u1_ne e]; exact wk.wb.mem b x (this.resolve_right e)
        · have hq' : (oPut3 B (L.gl l) l (adr L B l 0) (adr L B l 1) (adr L B l 2)).quo b = some q := hq
          rw [put3_quo] at hq'; exact wk.wb.q200 b q hq'
        · rw [kn_learn]
          have h' : u1 B.dl l true l' = true := h
          refine key 1 (by decide) l' ?_
          by_cases e : l' = l
          · exact .inr e
          · rw [u1_ne e] at h'; exact .inl h'
        · have h' : u1 B.dl l true l' = true := h
          by_cases e : l' = l
          · rw [e]; exact hl
          · rw [u1_ne e] at h'; exact wk.dln l' h'
      · exact ⟨wk, ws⟩
    · show WK L (oLearn S (L.gl l) l 2) B ∧ WS L (oLearn S (L.gl l) l 2) H
      have hws : WS L (oLearn S (L.gl l) l 2) H := WS_learn ws hl (Nat.le_refl 2)
      refine ⟨⟨wk.wl, wk.wb, fun l' h => ?_, wk.dln⟩, hws⟩
      rw [kn_learn]; exact key 2 (by decide) l' (.inl h)
  · rw [if_neg hc]; exact ⟨wk, ws⟩
theorem look_held : (look L l (S, B)).1.held = S.held := by
  unfold look
  split
  · split
    · split
      · exact held_learn
      · rfl
    · exact held_learn
  · rfl
end
-- looking at the letters in turn
def lookF (L : Lts) (P : Nat → Bool) : Nat → Nat → Sto × Bxs → Sto × Bxs
  | 0, _, x => x
  | m + 1, l, x => lookF L P m (l + 1) (if P l then look L l x else x)
theorem lookF_ok {L : Lts} {P : Nat → Bool} {H : Nat} : ∀ (m l : Nat) (S : Sto) (B : Bxs), l + m ≤ L.n → WK L S B → WS L S H → WK L (lookF L P m l (S, B)).1 (lookF L P m l (S, B)).2 ∧ WS L (lookF L P m l (S, B)).1 H ∧ (lookF L P m l (S, B)).1.held = S.held := by
  intro m
  induction m with
  | zero => intro l S B _ h1 h2; exact ⟨h1, h2, rfl⟩
  | succ m ih =>
    intro l S B hl h1 h2
    unfold lookF
    cases P l with
    | false => exact ih (l + 1) S B (by omega) h1 h2
    | true =>
      obtain ⟨g1, g2⟩ := look_ok h1 h2 (show l < L.n by omega)
      obtain ⟨k1, k2, k3⟩ := ih (l + 1) _ _ (by omega) g1 g2
      exact ⟨k1, k2, k3.trans look_held⟩
theorem RX.lk {s s' : Mem} {A : Ab} (h : RX s A) (f : FrL s s') {S : Sto} {B : Bxs} (hS : RS s' A.L.sz S) (hB : RB s' A.L.sz B) : RX s' (mkAb A.now A.T A.pubs S A.L B A.txt) :=
  ⟨by rw [(f 0 (by decide)).1]; exact h.clk, by rw [(f 0 (by decide)).1]; exact h.pub, by rw [(f 0 (by decide)).1]; exact h.tln,
    fun t ht => (h.tab t ht).elim fun L hL => ⟨L, hL.1.fr (f 1 (by decide)).1 (f 2 (by decide)).1 (f 3 (by decide)).1 (f 4 (by decide)).1, hL.2⟩, hS, h.ltr.frl f, hB, by rw [(f 21 (by decide)).2]; exact h.txb⟩
theorem RM.lk {s s' : Mem} {A : Ab} (h : RM s A) (f : FrK s s') {S : Sto} {B : Bxs} (hS : QS s' A.L.sz S) (hB : QB s' A.L.sz B) : RM s' (mkAb A.now A.T A.pubs S A.L B A.txt) :=
  ⟨by rw [(f 30 (by decide)).1]; exact h.clk, by rw [(f 30 (by decide)).1]; exact h.pub, by rw [(f 30 (by decide)).1]; exact h.tln,
    fun t ht => ⟨by rw [(f 34 (by decide)).1]; exact (h.tab t ht).cnt, by rw [(f 31 (by decide)).1, (f 32 (by decide)).1, (f 33 (by decide)).1]; exact (h.tab t ht).row⟩, hS, h.ltr.fr f, hB, by rw [(f 57 (by decide)).1]; exact h.txb⟩
section
variable {L : Lts} {now : Nat} {H : Nat}
theorem X_lookAll_lp {g : Nat} (hg : g < 8) {kk : Mem → RR} : ∀ (m n l : Nat) (s : Mem) (S : Sto) (B : Bxs), l + m = L.n → m < n → RS s L.sz S → RL s now L → RB s L.sz B → WK L S B → WS L S H →
    ∃ s', lp_X_lookAtAllOf_2 (nI g) kk n (nI l) s = kk s' ∧ RS s' L.sz (lookF L (fun l => decide (L.gl l = g)) m l (S, B)).1 ∧ RB s' L.sz (lookF L (fun l => decide (L.gl l = g)) m l (S, B)).2 ∧ FrL s s' := by
  intro m
  induction m with
  | zero =>
    intro n l s S B hl hn hS hL hB wk ws
    obtain ⟨n, rfl⟩ : ∃ n', n = n' + 1 := ⟨n - 1, by omega⟩
    have h16 := wk.wl.n16
    unfold lp_X_lookAtAllOf_2
    rw [gf_ok, hL.n, if_pos (by simp (disch := omega) only [qI_lit, qI_m1, qI_add, qI_mul, qI_le, qI_lt, qI_inj, qI_ne_m, m_ne_nI, m_lt_nI, m_le_nI, qI_lt_m, qI_le_m, qI_sub, qI_div, qI_rem, bI_0, bI_1]; omega)]
    exact ⟨s, rfl, hS, hB, FrL.rf⟩
  | succ m ih =>
    intro n l s S B hl hn hS hL hB wk ws
    obtain ⟨n, rfl⟩ : ∃ n', n = n' + 1 := ⟨n - 1, by omega⟩
    have h16 := wk.wl.n16
    have hgl := wk.wl.gl l (by omega)
    unfold lp_X_lookAtAllOf_2 lookF
    have e1 : nI l + 1 = nI (l + 1) := by simp (disch := omega) only [qI_lit, qI_m1, qI_add, qI_mul, qI_le, qI_lt, qI_inj, qI_ne_m, m_ne_nI, m_lt_nI, m_le_nI, qI_lt_m, qI_le_m, qI_sub, qI_div, qI_rem, bI_0, bI_1]
    rw [gf_ok, hL.n, if_neg (by simp (disch := omega) only [qI_lit, qI_m1, qI_add, qI_mul, qI_le, qI_lt, qI_inj, qI_ne_m, m_ne_nI, m_lt_nI, m_le_nI, qI_lt_m, qI_le_m, qI_sub, qI_div, qI_rem, bI_0, bI_1]; omega), al_ok (by omega) (by omega), gf_ok, hL.gl l (by omega), e1]
    by_cases e : L.gl l = g
    · rw [if_neg (by rw [e]; exact fun h => h rfl), decide_eq_true e, if_pos rfl]
      obtain ⟨s1, e2, h1, h2, f1⟩ := X_lookAt hS hL hB wk.wl wk.wb (show l < L.n by omega) (lk_ok wk ws (by omega))
      obtain ⟨g1, g2⟩ := look_ok wk ws (show l < L.n by omega)
      rw [e2, cV_ok]
      obtain ⟨s2, e3, h3, h4, f2⟩ := ih n (l + 1) s1 _ _ (by omega) (by omega) h1 (hL.frl f1) h2 g1 g2
      exact ⟨s2, e3, h3, h4, f1.tr f2⟩
    · rw [if_pos (by simp (disch := omega) only [qI_lit, qI_m1, qI_add, qI_mul, qI_le, qI_lt, qI_inj, qI_ne_m, m_ne_nI, m_lt_nI, m_le_nI, qI_lt_m, qI_le_m, qI_sub, qI_div, qI_rem, bI_0, bI_1]; exact e), decide_eq_false e, if_neg (by simp)]
      exact ih n (l + 1) s S B (by omega) (by omega) hS hL hB wk ws
theorem X_lookAllN_lp {x1 : Int32} {kk : Mem → RR} : ∀ (m n l : Nat) (s : Mem) (S : Sto) (B : Bxs), l + m = L.n → m < n → RS s L.sz S → RL s now L → RB s L.sz B → WK L S B → WS L S H →
    ∃ s', lp_X_minute_36 x1 kk n (nI l) s = kk s' ∧ RS s' L.sz (lookF L (fun _ => true) m l (S, B)).1 ∧ RB s' L.sz (lookF L (fun _ => true) m l (S, B)).2 ∧ FrL s s' := by
  intro m
  induction m with
  | zero =>
    intro n l s S B hl hn hS hL hB wk ws
    obtain ⟨n, rfl⟩ : ∃ n', n = n' + 1 := ⟨n - 1, by omega⟩
    have h16 := wk.wl.n16
    unfold lp_X_minute_36
    rw [gf_ok, hL.n, if_pos (by simp (disch := omega) only [qI_lit, qI_m1, qI_add, qI_mul, qI_le, qI_lt, qI_inj, qI_ne_m, m_ne_nI, m_lt_nI, m_le_nI, qI_lt_m, qI_le_m, qI_sub, qI_div, qI_rem, bI_0, bI_1]; omega)]
    exact ⟨s, rfl, hS, hB, FrL.rf⟩
  | succ m ih =>
    intro n l s S B hl hn hS hL hB wk ws
    obtain ⟨n, rfl⟩ : ∃ n', n = n' + 1 := ⟨n - 1, by omega⟩
    have h16 := wk.wl.n16
    unfold lp_X_minute_36 lookF
    have e1 : nI l + 1 = nI (l + 1) := by simp (disch := omega) only [qI_lit, qI_m1, qI_add, qI_mul, qI_le, qI_lt, qI_inj, qI_ne_m, m_ne_nI, m_lt_nI, m_le_nI, qI_lt_m, qI_le_m, qI_sub, qI_div, qI_rem, bI_0, bI_1]
    rw [gf_ok, hL.n, if_neg (by simp (disch := omega) only [qI_lit, qI_m1, qI_add, qI_mul, qI_le, qI_lt, qI_inj, qI_ne_m, m_ne_nI, m_lt_nI, m_le_nI, qI_lt_m, qI_le_m, qI_sub, qI_div, qI_rem, bI_0, bI_1]; omega), e1, if_pos rfl]
    obtain ⟨s1, e2, h1, h2, f1⟩ := X_lookAt hS hL hB wk.wl wk.wb (show l < L.n by omega) (lk_ok wk ws (by omega))
    obtain ⟨g1, g2⟩ := look_ok wk ws (show l < L.n by omega)
    rw [e2, cV_ok]
    obtain ⟨s2, e3, h3, h4, f2⟩ := ih n (l + 1) s1 _ _ (by omega) (by omega) h1 (hL.frl f1) h2 g1 g2
    exact ⟨s2, e3, h3, h4, f1.tr f2⟩
theorem lk_dl {S : Sto} {B : Bxs} {l : Nat} (wk : WK L S B) (ws : WS L S H) (hl : l < L.n) (hc : comp L S l) : B.dl l = false := by
  cases h : B.dl l with
  | false => rfl
  | true => exact absurd hc ((lk_ok wk ws hl).kn ((lk_ok wk ws hl).dl h))
theorem M_lookAll_lp {g : Nat} (hg : g < 8) {kk : Mem → RR} : ∀ (m n l : Nat) (s : Mem) (S : Sto) (B : Bxs), l + m = L.n → m < n → QS s L.sz S → QL s L → QB s L.sz B → WK L S B → WS L S H →
    ∃ s', lp_M_lookAll_2 (nI g) kk n (nI l) s = kk s' ∧ QS s' L.sz (lookF L (fun l => decide (L.gl l = g)) m l (S, B)).1 ∧ QB s' L.sz (lookF L (fun l => decide (L.gl l = g)) m l (S, B)).2 ∧ FrK s s' := by
  intro m
  induction m with
  | zero =>
    intro n l s S B hl hn hS hL hB wk ws
    obtain ⟨n, rfl⟩ : ∃ n', n = n' + 1 := ⟨n - 1, by omega⟩
    have h16 := wk.wl.n16
    unfold lp_M_lookAll_2
    rw [gf_ok, hL.n, if_pos (by simp (disch := omega) only [qI_lit, qI_m1, qI_add, qI_mul, qI_le, qI_lt, qI_inj, qI_ne_m, m_ne_nI, m_lt_nI, m_le_nI, qI_lt_m, qI_le_m, qI_sub, qI_div, qI_rem, bI_0, bI_1]; omega)]
    exact ⟨s, rfl, hS, hB, FrK.rf⟩
  | succ m ih =>
    intro n l s S B hl hn hS hL hB wk ws
    obtain ⟨n, rfl⟩ : ∃ n', n = n' + 1 := ⟨n - 1, by omega⟩
    have h16 := wk.wl.n16
    have hgl := wk.wl.gl l (by omega)
    unfold lp_M_lookAll_2 lookF
    have e1 : nI l + 1 = nI (l + 1) := by simp (disch := omega) only [qI_lit, qI_m1, qI_add, qI_mul, qI_le, qI_lt, qI_inj, qI_ne_m, m_ne_nI, m_lt_nI, m_le_nI, qI_lt_m, qI_le_m, qI_sub, qI_div, qI_rem, bI_0, bI_1]
    rw [gf_ok, hL.n, if_neg (by simp (disch := omega) only [qI_lit, qI_m1, qI_add, qI_mul, qI_le, qI_lt, qI_inj, qI_ne_m, m_ne_nI, m_lt_nI, m_le_nI, qI_lt_m, qI_le_m, qI_sub, qI_div, qI_rem, bI_0, bI_1]; omega), ld_ok (by omega) (by omega), hL.gl l (by omega), e1]
    by_cases e : L.gl l = g
    · rw [if_neg (by rw [e]; exact fun h => h rfl), decide_eq_true e, if_pos rfl]
      obtain ⟨s1, e2, h1, h2, f1⟩ := M_lookAt hS hL hB wk.wl wk.wb (show l < L.n by omega) (lk_dl wk ws (by omega))
      obtain ⟨g1, g2⟩ := look_ok wk ws (show l < L.n by omega)
      rw [e2, cV_ok]
      obtain ⟨s2, e3, h3, h4, f2⟩ := ih n (l + 1) s1 _ _ (by omega) (by omega) h1 (hL.fr f1) h2 g1 g2
      exact ⟨s2, e3, h3, h4, f1.tr f2⟩
    · rw [if_pos (by simp (disch := omega) only [qI_lit, qI_m1, qI_add, qI_mul, qI_le, qI_lt, qI_inj, qI_ne_m, m_ne_nI, m_lt_nI, m_le_nI, qI_lt_m, qI_le_m, qI_sub, qI_div, qI_rem, bI_0, bI_1]; exact e), decide_eq_false e, if_neg (by simp)]
      exact ih n (l + 1) s S B (by omega) (by omega) hS hL hB wk ws
theorem M_lookAllN_lp {x1 x2 : Int32} {kk : Mem → RR} : ∀ (m n l : Nat) (s : Mem) (S : Sto) (B : Bxs), l + m = L.n → m < n → QS s L.sz S → QL s L → QB s L.sz B → WK L S B → WS L S H →
    ∃ s', lp_M_minute_87 x1 x2 kk n (nI l) s = kk s' ∧ QS s' L.sz (lookF L (fun _ => true) m l (S, B)).1 ∧ QB s' L.sz (lookF L (fun _ => true) m l (S, B)).2 ∧ FrK s s' := by
  intro m
  induction m with
  | zero =>
    intro n l s S B hl hn hS hL hB wk ws
    obtain ⟨n, rfl⟩ : ∃ n', n = n' + 1 := ⟨n - 1, by omega⟩
    have h16 := wk.wl.n16
    unfold lp_M_minute_87
    rw [gf_ok, hL.n, if_pos (by simp (disch := omega) only [qI_lit, qI_m1, qI_add, qI_mul, qI_le, qI_lt, qI_inj, qI_ne_m, m_ne_nI, m_lt_nI, m_le_nI, qI_lt_m, qI_le_m, qI_sub, qI_div, qI_rem, bI_0, bI_1]; omega)]
    exact ⟨s, rfl, hS, hB, FrK.rf⟩
  | succ m ih =>
    intro n l s S B hl hn hS hL hB wk ws
    obtain ⟨n, rfl⟩ : ∃ n', n = n' + 1 := ⟨n - 1, by omega⟩
    have h16 := wk.wl.n16
    unfold lp_M_minute_87 lookF
    have e1 : nI l + 1 = nI (l + 1) := by simp (disch := omega) only [qI_lit, qI_m1, qI_add, qI_mul, qI_le, qI_lt, qI_inj, qI_ne_m, m_ne_nI, m_lt_nI, m_le_nI, qI_lt_m, qI_le_m, qI_sub, qI_div, qI_rem, bI_0, bI_1]
    rw [gf_ok, hL.n, if_neg (by simp (disch := omega) only [qI_lit, qI_m1, qI_add, qI_mul, qI_le, qI_lt, qI_inj, qI_ne_m, m_ne_nI, m_lt_nI, m_le_nI, qI_lt_m, qI_le_m, qI_sub, qI_div, qI_rem, bI_0, bI_1]; omega), e1, if_pos rfl]
    obtain ⟨s1, e2, h1, h2, f1⟩ := M_lookAt hS hL hB wk.wl wk.wb (show l < L.n by omega) (lk_dl wk ws (by omega))
    obtain ⟨g1, g2⟩ := look_ok wk ws (show l < L.n by omega)
    rw [e2, cV_ok]
    obtain ⟨s2, e3, h3, h4, f2⟩ := ih n (l + 1) s1 _ _ (by omega) (by omega) h1 (hL.fr f1) h2 g1 g2
    exact ⟨s2, e3, h3, h4, f1.tr f2⟩
end
-- at the picture
def lkAll (g : Nat) (A : Ab) : Ab := mkAb A.now A.T A.pubs (lookF A.L (fun l => decide (A.L.gl l = g)) A.L.n 0 (A.S, A.B)).1 A.L (lookF A.L (fun l => decide (A.L.gl l = g)) A.L.n 0 (A.S, A.B)).2 A.txt
section
variable {s : Mem} {A : Ab} {c g : Nat}
theorem lkAll_WF (h : WF A c) : WF (lkAll g A) c := by
  obtain ⟨h1, h2, h3⟩ := lookF_ok (P := fun l => decide (A.L.gl l = g)) A.L.n 0 A.S A.B (by omega) h.wk h.ws
  exact ⟨h.now, h.pub, h.tab, fun i => by show (lookF A.L _ A.L.n 0 (A.S, A.B)).1.held i ≤ _; rw [h3]; exact h.hel i, h1, h2, h.ps, h.t32⟩
theorem X_lookAll (hX : RX s A) (wk : WK A.L A.S A.B) {H : Nat} (ws : WS A.L A.S H) (hg : g < 8) : ∃ s', f_X_lookAtAllOf (nI g) s = mm_rv s' ∧ RX s' (lkAll g A) ∧ FrC s s' := by
  unfold f_X_lookAtAllOf
  obtain ⟨s', e, h1, h2, f⟩ := X_lookAll_lp (H := H) (now := A.now) hg (kk := fun s2 => mm_rv s2) A.L.n FU 0 s A.S A.B (by omega) (by have := wk.wl.n16; unfold FU; omega) hX.sto hX.ltr hX.box wk ws
  exact ⟨s', e, hX.lk f h1 h2, FrC.ls f⟩
theorem M_lookAll (hR : RM s A) (wk : WK A.L A.S A.B) {H : Nat} (ws : WS A.L A.S H) (hg : g < 8) : ∃ s', f_M_lookAll (nI g) s = mm_rv s' ∧ RM s' (lkAll g A) ∧ FrK s s' := by
  unfold f_M_lookAll
  obtain ⟨s', e, h1, h2, f⟩ := M_lookAll_lp (H := H) hg (kk := fun s2 => mm_rv s2) A.L.n FU 0 s A.S A.B (by omega) (by have := wk.wl.n16; unfold FU; omega) hR.sto hR.ltr hR.box wk ws
  exact ⟨s', e, hR.lk f h1 h2, f⟩
end

-- the class moves pieces
theorem RS_rf {s : Mem} {sz : Nat → Nat} {S : Sto} (h : RS s sz S) {i t : Nat} : RS (mm_wI s 7 i 8 (nI t)) sz (mkSto S.cp S.vb S.hp S.nw S.kn S.bt S.held S.ea (u1 S.rf i t)) := by
  refine ⟨fun i' hi' => (wI_k (by decide)).trans (h.cap i' hi'), fun i' hi' => (wI_k (by decide)).trans (h.cop i' hi'), fun i' hi' => (wI_k (by decide)).trans (h.hel i' hi'), fun i' hi' => (wI_k (by decide)).trans (h.exl i' hi'), fun i' hi' => ?_, h.hop, h.new, h.kno, h.byt, h.hlt, h.nlt, h.vcp⟩
  show _ = nI (u1 S.rf i t i')
  by_cases e : i' = i
  · rw [e, wI_y, u1_at]
  · rw [wI_n (by omega), u1_ne e]; exact h.ref i' hi'
section
variable {s : Mem} {sz : Nat → Nat} {S : Sto} {g r p : Nat}
theorem X_move (hS : RS s sz S) (hs : ∀ l, sz l ≤ 32) (hG : Gr g r) (hp : p < 64) (hg : S.cp g p = true) (hr : S.cp r p = false) (hcap : cN (S.cp r) 64 ≤ capa r) (hH : S.hp g p + 1 < 1000000) (B : Bxs) :
    (cN (S.cp r) 64 = capa r → ∃ s', f_X_movePiece (nI p) g r s = mm_ri (nI 0) s' ∧ RS s' sz (refu r (S, B)).1 ∧ FrS s s') ∧ (cN (S.cp r) 64 ≠ capa r → ∃ s', f_X_movePiece (nI p) g r s = mm_ri (nI 1) s' ∧ RS s' sz (mvS S g r p) ∧ FrS s s') := by
  have hc24 : capa r ≤ 24 := by unfold capa; split <;> omega
  refine ⟨fun hc => ?_, fun hc => ?_⟩
  · unfold f_X_movePiece
    rw [S_has hS hG.r12 hp, cI_ok, hr, if_pos (by decide), S_room hS hG.r12 hcap, cI_ok, hc, Nat.sub_self, if_neg (fun h => h rfl), gf_ok, hS.ref r hG.r12, pf_ok, show nI (S.rf r) + 1 = nI (S.rf r + 1) by simp only [qI_lit, qI_add]]
    exact ⟨_, rfl, RS_rf hS, FrS.wI (by omega)⟩
  · have hop : s.1 8 g p = nI (S.hp g p) := by rw [hS.hop g p hG.g12 hp, hg]; rfl
    obtain ⟨s1, e1, h1, f1⟩ := S_take (x := s.2 10 g p) (t := S.hp g p + 1) (b := S.bt g (p / 4)) hS hG.r12 hp hr hH (fun l j hl hj hk => by
      have h32 := hs l
      have e2 : l = p / 4 := by omega
      have := hS.byt g l j hG.g12 hl hj (by rw [hk]; exact hS.vcp g p hg)
      rw [hk] at this
      rw [← e2]; exact this)
    obtain ⟨s2, e2, h2, f2⟩ := S_learnHops (t := S.hp g p + 1) h1 hG.g12 hp hH
    refine ⟨s2, ?_, h2, f1.tr f2⟩
    unfold f_X_movePiece
    rw [S_has hS hG.r12 hp, cI_ok, hr, if_pos (by decide), S_room hS hG.r12 hcap, cI_ok, if_pos (by rw [show (0 : Int32) = nI 0 from rfl, qI_inj (by omega) (by omega)]; omega), ld_ok hp (by omega), hop, ldj_ok hp (by omega), show nI (S.hp g p) + 1 = nI (S.hp g p + 1) by simp only [qI_lit, qI_add], e1, cV_ok, e2, cV_ok]; rfl
end
def ABx (A : Ab) (x : Sto × Bxs) : Ab := mkAb A.now A.T A.pubs x.1 A.L x.2 A.txt
def LasX (s : Mem) (w : Option (Nat × Nat × Nat)) : Prop := match w with
  | none => True
  | some (g, p, _) => s.1 0 0 14 = nI g ∧ s.1 0 0 15 = nI p
theorem RX.w0 {s : Mem} {A : Ab} (h : RX s A) {k : Nat} {v : Int32} (hk : k = 14 ∨ k = 15) : RX (mm_wI s 0 0 k v) A :=
  ⟨(wI_k (by omega)).trans h.clk, (wI_k (by omega)).trans h.pub, (wI_k (by omega)).trans h.tln, fun t ht => (h.tab t ht).elim fun L hL => ⟨L, ⟨hL.1.cnt, hL.1.row⟩, hL.2⟩, h.sto.fr rfl rfl rfl rfl rfl,
    ⟨(wI_k (by omega)).trans h.ltr.n, h.ltr.org, h.ltr.gl, h.ltr.ad, h.ltr.srt, h.ltr.ps, h.ltr.pr, h.ltr.sz, h.ltr.sm, h.ltr.ov, h.ltr.ex⟩, ⟨h.box.grp, h.box.cnt, h.box.byt, h.box.quo, h.box.lie, h.box.dlv⟩, h.txb⟩
section
variable {A : Ab} {g r q i : Nat} {xs : List Nat}
theorem X_mv_lp (hG : Gr g r) (hq : q ≤ 40) (hx : xs.length ≤ 24) {kk : Int32 → Mem → RR} : ∀ (m n j c H : Nat) (s : Mem) (x : Sto × Bxs) (w : Option (Nat × Nat × Nat)), j + m = xs.length → m < n → c ≤ 40 → H + m < 999999 → RX s (ABx A x) → OfR s i xs → MI A.L x.1 x.2 H g r (xs.drop j) → LasX s w →
    ∃ s', lp_X_moveOffered_6 i (nI g) (nI r) (nI q) kk n (nI c) (nI j) s = kk (nI (mvA A.L g r q (xs.drop j) x c w).2.1) s' ∧ RX s' (ABx A (mvA A.L g r q (xs.drop j) x c w).1) ∧ LasX s' (mvA A.L g r q (xs.drop j) x c w).2.2 ∧ s'.1 26 = s.1 26 ∧ s'.1 27 = s.1 27 ∧ FrC s s' := by
  intro m
  induction m with
  | zero =>
    intro n j c H s x w hj hn hc hH hX hO hM hw
    obtain ⟨n, rfl⟩ : ∃ n', n = n' + 1 := ⟨n - 1, by omega⟩
    unfold lp_X_moveOffered_6
    rw [gf_ok, hO.cnt, if_pos (by simp (disch := omega) only [qI_lit, qI_m1, qI_add, qI_mul, qI_le, qI_lt, qI_inj, qI_ne_m, m_ne_nI, m_lt_nI, m_le_nI, qI_lt_m, qI_le_m, qI_sub, qI_div, qI_rem, bI_0, bI_1]; omega), List.drop_eq_nil_of_le (show xs.length ≤ j by omega)]
    exact ⟨s, rfl, hX, hw, rfl, rfl, FrC.rf⟩
  | succ m ih =>
    intro n j c H s x w hj hn hc hH hX hO hM hw
    obtain ⟨n, rfl⟩ : ∃ n', n = n' + 1 := ⟨n - 1, by omega⟩
    have hjl : j < xs.length := by omega
    have hd : xs.drop j = xs[j] :: xs.drop (j + 1) := (List.drop_eq_getElem_cons hjl)
    have hrow : s.1 27 i j = nI xs[j] := hO.row j _ (List.getElem?_eq_getElem hjl)
    have e1 : nI j + 1 = nI (j + 1) := by simp (disch := omega) only [qI_lit, qI_m1, qI_add, qI_mul, qI_le, qI_lt, qI_inj, qI_ne_m, m_ne_nI, m_lt_nI, m_le_nI, qI_lt_m, qI_le_m, qI_sub, qI_div, qI_rem, bI_0, bI_1]
    have ec : nI c + 1 = nI (c + 1) := by simp only [qI_lit, qI_add]
    rw [hd] at hM ⊢
    generalize xs[j] = p at hd hrow hM ⊢
    have hcg : x.1.cp g p = true := hM.cpg p List.mem_cons_self
    have hcr : x.1.cp r p = false := hM.cpr p List.mem_cons_self
    obtain ⟨h1, h2⟩ := hM.ws.cpn g p hcg
    have n16 := hM.wk.wl.n16
    have hp64 : p < 64 := by omega
    have hhp := hM.ws.hb g p
    have hgl := hM.wk.wl.gl (p / 4) h1
    have hg12 := hG.g12
    have hr12 := hG.r12
    unfold lp_X_moveOffered_6
    rw [gf_ok, hO.cnt, if_neg (by simp (disch := omega) only [qI_lit, qI_m1, qI_add, qI_mul, qI_le, qI_lt, qI_inj, qI_ne_m, m_ne_nI, m_lt_nI, m_le_nI, qI_lt_m, qI_le_m, qI_sub, qI_div, qI_rem, bI_0, bI_1]; omega), mvA_cons]
    by_cases c1 : q ≤ c
    · rw [if_pos (by simp (disch := omega) only [qI_lit, qI_m1, qI_add, qI_mul, qI_le, qI_lt, qI_inj, qI_ne_m, m_ne_nI, m_lt_nI, m_le_nI, qI_lt_m, qI_le_m, qI_sub, qI_div, qI_rem, bI_0, bI_1]; exact c1), if_pos c1]
      exact ⟨s, rfl, hX, hw, rfl, rfl, FrC.rf⟩
    · rw [if_neg (by simp (disch := omega) only [qI_lit, qI_m1, qI_add, qI_mul, qI_le, qI_lt, qI_inj, qI_ne_m, m_ne_nI, m_lt_nI, m_le_nI, qI_lt_m, qI_le_m, qI_sub, qI_div, qI_rem, bI_0, bI_1]; exact c1), if_neg c1, ld_ok (by omega) (by omega), hrow, al_ok hg12 (by omega), al_ok hr12 (by omega), e1, ec]
      obtain ⟨m1, m2⟩ := X_move hX.sto hM.wk.wl.s32 hG hp64 hcg hcr (hM.ws.cap r hG.r12) (by show x.1.hp g p + 1 < _; omega) x.2
      by_cases c2 : cN (x.1.cp r) 64 = capa r
      · obtain ⟨s1, e2, k1, f1⟩ := m1 c2
        have hX1 : RX s1 (ABx A (refu r x)) := hX.sto' f1 k1
        rw [e2, cI_ok, if_pos (by decide), if_pos c2]
        have hO1 : OfR s1 i xs := ⟨by rw [(f1 26 (by omega)).1]; exact hO.cnt, by rw [(f1 27 (by omega)).1]; exact hO.row⟩
        have hw1 : LasX s1 w := by
          cases w with
          | none => trivial
          | some w => exact ⟨by rw [(f1 0 (by omega)).1]; exact hw.1, by rw [(f1 0 (by omega)).1]; exact hw.2⟩
        obtain ⟨s2, e3, a1, a2, a3, a4, a5⟩ := ih n (j + 1) c H s1 (refu r x) w (by omega) (by omega) hc (by omega) hX1 hO1 (refu_ok (S := x.1) (B := x.2) hM) hw1
        exact ⟨s2, e3, a1, a2, a3.trans (f1 26 (by omega)).1, a4.trans (f1 27 (by omega)).1, (FrC.ss f1).tr a5⟩
      · obtain ⟨s1, e2, k1, f1⟩ := m2 c2
        have hX1 : RX s1 (ABx A (mvS x.1 g r p, x.2)) := hX.sto' f1 k1
        rw [e2, cI_ok, if_neg (by decide), if_neg c2, pf_ok, pf_ok, show (4 : Int32) = nI 4 from rfl, qI_div (by omega) (by omega), al_ok (by omega) (by omega)]
        have hX2 := (hX1.w0 (k := 14) (v := nI g) (.inl rfl)).w0 (k := 15) (v := nI p) (.inr rfl)
        have hgl2 : (mm_wI (mm_wI s1 0 0 14 (nI g)) 0 0 15 (nI p)).1 19 (p / 4) 1 = nI (A.L.gl (p / 4)) := hX2.ltr.gl (p / 4) h1
        rw [gf_ok, hgl2]
        have hM' : MI A.L x.1 x.2 H g r (p :: xs.drop (j + 1)) := hM
        obtain ⟨b1, _⟩ := stp_ok hG hM' c2
        have hlx : ∀ s' : Mem, s'.1 0 = (mm_wI (mm_wI s1 0 0 14 (nI g)) 0 0 15 (nI p)).1 0 → LasX s' (some (g, p, x.1.hp g p)) := by
          intro s' h9
          exact ⟨by rw [h9, wI_k (by decide), wI_y], by rw [h9, wI_y]⟩
        have f01 : FrC s (mm_wI (mm_wI s1 0 0 14 (nI g)) 0 0 15 (nI p)) := (FrC.ss f1).tr ((FrC.wI (by decide)).tr (FrC.wI (by decide)))
        have q26 : ∀ F, F = 26 ∨ F = 27 → (mm_wI (mm_wI s1 0 0 14 (nI g)) 0 0 15 (nI p)).1 F = s.1 F := fun F hF => (wI_ne (by omega)).trans ((wI_ne (by omega)).trans (f1 F (by omega)).1)
        by_cases c3 : A.L.gl (p / 4) = r
        · have ws1 := WS_mv hG hM.ws hcg hcr (hM.knr p List.mem_cons_self) c2
          have wk1 : WK A.L (mvS x.1 g r p) x.2 := WK_kn hM.wk rfl
          obtain ⟨s3, e3, k2, k3, f3⟩ := X_lookAt hX2.sto hX2.ltr hX2.box wk1.wl wk1.wb h1 (lk_ok wk1 ws1 h1)
          rw [if_neg (by rw [c3]; exact fun h => h rfl), e3, cV_ok]
          have est : stp A.L g r p x = look A.L (p / 4) (mvS x.1 g r p, x.2) := by unfold stp; rw [if_pos c3]
          have hX3 : RX s3 (ABx A (stp A.L g r p x)) := by rw [est]; exact hX2.lk f3 k2 k3
          have hO3 : OfR s3 i xs := ⟨by rw [(f3 26 (by omega)).1, q26 26 (.inl rfl)]; exact hO.cnt, by rw [(f3 27 (by omega)).1, q26 27 (.inr rfl)]; exact hO.row⟩
          obtain ⟨s4, e4, a1, a2, a3, a4, a5⟩ := ih n (j + 1) (c + 1) (H + 1) s3 (stp A.L g r p x) (some (g, p, x.1.hp g p)) (by omega) (by omega) (by omega) (by omega) hX3 hO3 b1 (hlx s3 (f3 0 (by omega)).1)
          exact ⟨s4, e4, a1, a2, a3.trans ((f3 26 (by omega)).1.trans (q26 26 (.inl rfl))), a4.trans ((f3 27 (by omega)).1.trans (q26 27 (.inr rfl))), f01.tr ((FrC.ls f3).tr a5)⟩
        · rw [if_pos (by rw [qI_inj (by omega) (by omega)]; exact c3)]
          have est : stp A.L g r p x = (mvS x.1 g r p, x.2) := by unfold stp; rw [if_neg c3]
          have hX3 : RX (mm_wI (mm_wI s1 0 0 14 (nI g)) 0 0 15 (nI p)) (ABx A (stp A.L g r p x)) := by rw [est]; exact hX2
          have hO3 : OfR (mm_wI (mm_wI s1 0 0 14 (nI g)) 0 0 15 (nI p)) i xs := ⟨by rw [q26 26 (.inl rfl)]; exact hO.cnt, by rw [q26 27 (.inr rfl)]; exact hO.row⟩
          obtain ⟨s4, e4, a1, a2, a3, a4, a5⟩ := ih n (j + 1) (c + 1) (H + 1) _ (stp A.L g r p x) (some (g, p, x.1.hp g p)) (by omega) (by omega) (by omega) (by omega) hX3 hO3 b1 (hlx _ rfl)
          exact ⟨s4, e4, a1, a2, a3.trans (q26 26 (.inl rfl)), a4.trans (q26 27 (.inr rfl)), f01.tr a5⟩
theorem X_moveOff (hG : Gr g r) (hq : q ≤ 40) (hx : xs.length ≤ 24) {H : Nat} (hH : H + xs.length < 999999) {s : Mem} {x : Sto × Bxs} {w : Option (Nat × Nat × Nat)} (hX : RX s (ABx A x)) (hO : OfR s i xs) (hM : MI A.L x.1 x.2 H g r xs) (hw : LasX s w) :
    ∃ s', f_X_moveOffered i (nI g) (nI r) (nI q) s = mm_ri (nI (mvA A.L g r q xs x 0 w).2.1) s' ∧ RX s' (ABx A (mvA A.L g r q xs x 0 w).1) ∧ LasX s' (mvA A.L g r q xs x 0 w).2.2 ∧ s'.1 26 = s.1 26 ∧ s'.1 27 = s.1 27 ∧ FrC s s' := by
  unfold f_X_moveOffered
  exact X_mv_lp hG hq hx (kk := fun x s => mm_ri x s) xs.length FU 0 0 H s x w (by omega) (by unfold FU; omega) (by omega) hH hX hO hM hw
end

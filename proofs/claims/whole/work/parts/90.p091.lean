-- publish of the reference
section
variable {T : List Hlt}
theorem M_publish_lp (hlen : T.length ≤ 24) {p : Nat} (hp : 1 ≤ p ∧ p ≤ 6) {kk : Mem → RR} : ∀ (m n j : Nat) (s : Mem), j + m = T.length → m < n → s.1 30 0 4 = nI p → TabM s 7 T → (∀ i x, i < j → T[i]? = some x → rowM s (24 * p + i) x) →
    ∃ s', lp_M_publish_60 kk n (nI j) s = kk s' ∧ (∀ i x, T[i]? = some x → rowM s' (24 * p + i) x) ∧ (∀ k, ¬ (24 * p ≤ k ∧ k < 24 * p + 24) → ∀ F, s'.1 F 0 k = s.1 F 0 k) ∧ s'.1 34 = s.1 34 ∧ FrD s s' := by
  intro m
  induction m with
  | zero =>
    intro n j s hj hn h4 hT hr
    obtain ⟨n, rfl⟩ : ∃ n', n = n' + 1 := ⟨n - 1, by omega⟩
    unfold lp_M_publish_60
    rw [show (7 : Int32) = nI 7 from rfl, ld_ok (by decide) (by decide), hT.cnt, if_pos (by simp (disch := omega) only [qI_lit, qI_m1, qI_add, qI_mul, qI_le, qI_lt, qI_inj, qI_ne_m, m_ne_nI, m_lt_nI, m_le_nI, qI_lt_m, qI_le_m, qI_sub, qI_div, qI_rem, bI_0, bI_1]; omega)]
    exact ⟨s, rfl, fun i x hx => hr i x (by have := (List.getElem?_eq_some_iff.mp hx).1; omega) hx, fun _ _ _ => rfl, rfl, FrD.rf⟩
  | succ m ih =>
    intro n j s hj hn h4 hT hr
    obtain ⟨n, rfl⟩ : ∃ n', n = n' + 1 := ⟨n - 1, by omega⟩
    unfold lp_M_publish_60
    have hjl : j < T.length := by omega
    have hx : T[j]? = some T[j] := List.getElem?_eq_getElem hjl
    obtain ⟨s1, e1, r1, k1, b1, f1⟩ := M_copyStop (a := 168 + j) (b := 24 * p + j) (by omega) (by omega) (hT.row' hx)
    rw [show (7 : Int32) = nI 7 from rfl, ld_ok (by decide) (by decide), hT.cnt, if_neg (by simp (disch := omega) only [qI_lit, qI_m1, qI_add, qI_mul, qI_le, qI_lt, qI_inj, qI_ne_m, m_ne_nI, m_lt_nI, m_le_nI, qI_lt_m, qI_le_m, qI_sub, qI_div, qI_rem, bI_0, bI_1]; omega), gf_ok, h4, show (168 : Int32) + nI j = nI (168 + j) by simp only [qI_lit, qI_add], show (24 : Int32) * nI p + nI j = nI (24 * p + j) by simp only [qI_lit, qI_add, qI_mul], e1, cV_ok, show nI j + 1 = nI (j + 1) by simp (disch := omega) only [qI_lit, qI_m1, qI_add, qI_mul, qI_le, qI_lt, qI_inj, qI_ne_m, m_ne_nI, m_lt_nI, m_le_nI, qI_lt_m, qI_le_m, qI_sub, qI_div, qI_rem, bI_0, bI_1]]
    have hT1 : TabM s1 7 T := by
      refine ⟨by rw [b1]; exact hT.cnt, fun i x hx => ?_⟩
      have hi := (List.getElem?_eq_some_iff.mp hx).1
      obtain ⟨q1, q2, q3⟩ := hT.row i x hx
      exact ⟨(k1 _ (by omega) 31).trans q1, (k1 _ (by omega) 32).trans q2, (k1 _ (by omega) 33).trans q3⟩
    obtain ⟨s2, e2, r2, k2, b2, f2⟩ := ih n (j + 1) s1 (by omega) (by omega) (by rw [(f1 30 (by omega)).1]; exact h4) hT1 (fun i x hi hx' => by
      by_cases e : i = j
      · subst e
        have hx2 := hx'
        rw [List.getElem?_eq_getElem hjl] at hx2
        injection hx2 with hx2
        rw [← hx2]; exact r1
      · obtain ⟨q1, q2, q3⟩ := hr i x (by omega) hx'
        exact ⟨(k1 _ (by omega) 31).trans q1, (k1 _ (by omega) 32).trans q2, (k1 _ (by omega) 33).trans q3⟩)
    exact ⟨s2, e2, r2, fun k hk F => (k2 k hk F).trans (k1 k (by omega) F), b2.trans b1, f1.tr f2⟩
end
section
variable {s : Mem} {A : Ab} {c : Nat}
theorem M_publish_no (h : RM s A) (hp : A.pubs = 6) : ∃ s', f_M_publish s = mm_ri (nI 0) s' ∧ s'.1 30 0 31 = nI 1 ∧ RM s' A ∧ FrN s s' := by
  unfold f_M_publish
  simp only [mm_jn]
  rw [gf_ok, h.pub, hp, if_neg (fun h9 => h9 rfl), pf_ok, gf_ok, wI_y, if_neg (by decide), pf_ok]
  exact ⟨_, rfl, wI_y, h.thr.thr, (FrN.wI (by decide)).tr (FrN.wI (by decide))⟩
theorem M_publish_yes_n (h : RM s A) (hT : ∀ t, t < 8 → (A.T t).length ≤ 24) (hp : A.pubs < 6) {n : Nat} (hn : 24 < n) :
    ∃ s', (mm_lp (fun kk => lp_M_publish_60 kk n (nI 0) (mm_wI (mm_wI (mm_wI s 30 0 31 (nI 0)) 30 0 4 (nI (A.pubs + 1))) 34 0 (A.pubs + 1) (nI (A.T 7).length))) fun s60 => mm_gf s60 30 0 4 fun v101 => mm_st s60 35 0 12 ((0 : Int32)) v101 fun s104 => mm_gf s104 30 0 4 fun v106 => mm_ri v106 s104) = mm_ri (nI (A.pubs + 1)) s' ∧ s'.1 30 0 31 = nI 0 ∧ RM s' (oPub A) ∧ FrN s s' := by
  generalize hs3 : mm_wI (mm_wI (mm_wI s 30 0 31 (nI 0)) 30 0 4 (nI (A.pubs + 1))) 34 0 (A.pubs + 1) (nI (A.T 7).length) = s3
  have f3 : ∀ F, F ≠ 30 → F ≠ 34 → s3.1 F = s.1 F := by intro F h1 h2; rw [← hs3, wI_ne h2, wI_ne h1, wI_ne h1]
  have f3' : s3.2 = s.2 := by rw [← hs3]; rfl
  have g30 : ∀ q, q ≠ 31 → q ≠ 4 → s3.1 30 0 q = s.1 30 0 q := by intro q h1 h2; rw [← hs3, wI_ne (by decide), wI_k h2, wI_k h1]
  have g4 : s3.1 30 0 4 = nI (A.pubs + 1) := by rw [← hs3, wI_ne (by decide), wI_y]
  have g31 : s3.1 30 0 31 = nI 0 := by rw [← hs3, wI_ne (by decide), wI_k (by decide), wI_y]
  have g34 : ∀ t, t ≠ A.pubs + 1 → s3.1 34 0 t = s.1 34 0 t := by intro t h1; rw [← hs3, wI_k h1, wI_ne (by decide), wI_ne (by decide)]
  have g34' : s3.1 34 0 (A.pubs + 1) = nI (A.T 7).length := by rw [← hs3, wI_y]
  have hT3 : ∀ t, t < 8 → t ≠ A.pubs + 1 → TabM s3 t (A.T t) := fun t ht hne => ⟨by rw [g34 t hne]; exact (h.tab t ht).cnt, by rw [f3 31 (by decide) (by decide), f3 32 (by decide) (by decide), f3 33 (by decide) (by decide)]; exact (h.tab t ht).row⟩
  obtain ⟨s4, e4, r4, k4, b4, f4⟩ := M_publish_lp (p := A.pubs + 1) (hT 7 (by decide)) (by omega) (kk := fun s60 => mm_gf s60 30 0 4 fun v101 => mm_st s60 35 0 12 ((0 : Int32)) v101 fun s104 => mm_gf s104 30 0 4 fun v106 => mm_ri v106 s104) (A.T 7).length n 0 s3 (by omega) (by have := hT 7 (by decide); omega) g4 (hT3 7 (by decide) (by omega)) (fun i x hi => by omega)
  have g44 : s4.1 30 0 4 = nI (A.pubs + 1) := by rw [(f4 30 (by omega)).1]; exact g4
  refine ⟨mm_wI s4 35 0 0 (nI (A.pubs + 1)), ?_, ?_, ?_, ?_⟩
  · show lp_M_publish_60 _ n (nI 0) s3 = _
    rw [e4, gf_ok, g44, show (0 : Int32) = nI 0 from rfl, st_ok (by decide) (by decide), gf_ok, wI_ne (by decide), g44]
  · rw [wI_ne (by decide), (f4 30 (by omega)).1]; exact g31
  · have fx : ∀ F, F ≠ 30 → (F < 31 ∨ 34 < F) → s4.1 F = s.1 F := fun F h1 h2 => (f4 F h2).1.trans (f3 F h1 (by omega))
    have e30 : ∀ q, q ≠ 31 → q ≠ 4 → s4.1 30 0 q = s.1 30 0 q := fun q h1 h2 => by rw [(f4 30 (by omega)).1]; exact g30 q h1 h2
    refine ⟨?_, ?_, ?_, fun t ht => ?_, ?_, ?_, ?_, ?_⟩
    · rw [wI_ne (by decide), e30 5 (by decide) (by decide)]; exact h.clk
    · rw [wI_ne (by decide)]; exact g44
    · rw [wI_ne (by decide), e30 30 (by decide) (by decide)]; exact h.tln
    · have key : TabM s4 t (u1 A.T (A.pubs + 1) (A.T 7) t) := by
        by_cases e : t = A.pubs + 1
        · subst e; rw [u1_at]
          exact ⟨by rw [b4]; exact g34', r4⟩
        · rw [u1_ne e]
          have hh := hT3 t ht e
          refine ⟨by rw [b4]; exact hh.cnt, fun i x hx => ?_⟩
          have hi := (List.getElem?_eq_some_iff.mp hx).1
          have := hT t ht
          obtain ⟨q1, q2, q3⟩ := hh.row i x hx
          exact ⟨(k4 _ (by omega) 31).trans q1, (k4 _ (by omega) 32).trans q2, (k4 _ (by omega) 33).trans q3⟩
      exact ⟨key.cnt, key.row⟩
    · have : QS s4 A.L.sz A.S := h.sto.fr (fx 35 (by decide) (by decide)) (fx 46 (by decide) (by decide)) (fx 47 (by decide) (by decide)) (fx 48 (by decide) (by decide)) (fx 49 (by decide) (by decide)) (fx 50 (by decide) (by decide)) (fx 51 (by decide) (by decide)) (fx 52 (by decide) (by decide))
      exact QS_held this
    · refine ⟨by rw [wI_ne (by decide), e30 7 (by decide) (by decide)]; exact h.ltr.n, ?_, ?_, ?_, ?_, ?_, ?_, ?_, ?_, ?_⟩
      · rw [wI_ne (by decide), fx 36 (by decide) (by decide)]; exact h.ltr.sz
      · rw [wI_ne (by decide), fx 37 (by decide) (by decide)]; exact h.ltr.srt
      · rw [wI_ne (by decide), fx 38 (by decide) (by decide)]; exact h.ltr.org
      · rw [wI_ne (by decide), fx 39 (by decide) (by decide)]; exact h.ltr.gl
      · rw [wI_ne (by decide), fx 40 (by decide) (by decide)]; exact h.ltr.ad
      · rw [wI_ne (by decide), fx 41 (by decide) (by decide)]; exact h.ltr.ps
      · rw [wI_ne (by decide), fx 42 (by decide) (by decide)]; exact h.ltr.sm
      · rw [wI_ne (by decide), fx 43 (by decide) (by decide)]; exact h.ltr.pr
      · rw [wI_ne (by decide), fx 44 (by decide) (by decide)]; exact h.ltr.ex
    · refine ⟨?_, ?_, ?_, ?_, ?_⟩
      · rw [wI_ne (by decide), fx 45 (by decide) (by decide)]; exact h.box.dlv
      · rw [wI_ne (by decide), fx 53 (by decide) (by decide)]; exact h.box.quo
      · rw [wI_ne (by decide), fx 54 (by decide) (by decide)]; exact h.box.cnt
      · rw [wI_ne (by decide), fx 55 (by decide) (by decide)]; exact h.box.lie
      · rw [wI_ne (by decide), fx 56 (by decide) (by decide)]; exact h.box.grp
    · rw [wI_ne (by decide), fx 57 (by decide) (by decide)]; exact h.txb
  · refine FrN.tr (b := s3) ?_ ((FrN.ds f4).tr (FrN.wI (by decide)))
    exact fun F hF => ⟨f3 F (by omega) (by omega), by rw [f3']⟩
theorem M_publish_yes (h : RM s A) (hT : ∀ t, t < 8 → (A.T t).length ≤ 24) (hp : A.pubs < 6) : ∃ s', f_M_publish s = mm_ri (nI (A.pubs + 1)) s' ∧ s'.1 30 0 31 = nI 0 ∧ RM s' (oPub A) ∧ FrN s s' := by
  have := M_publish_yes_n h hT hp (n := FU) (by unfold FU; omega)
  unfold f_M_publish
  simp only [mm_jn]
  rw [gf_ok, h.pub, if_pos (by rw [show (6 : Int32) = nI 6 from rfl, qI_inj (by omega) (by omega)]; omega), pf_ok, gf_ok, wI_y, if_pos rfl, gf_ok, wI_k (by decide), h.pub, pf_ok, show nI A.pubs + 1 = nI (A.pubs + 1) by simp only [qI_lit, qI_add], gf_ok, wI_y, show (7 : Int32) = nI 7 from rfl, ld_ok (by decide) (by decide), wI_ne (by decide), wI_ne (by decide), (h.tab 7 (by decide)).cnt, st_ok (by omega) (by omega)]
  exact this
theorem call_publish (hX : RX s A) (hW : WF A c) : Agr f_X_publish f_M_publish 2 2 2 s A c := by
  by_cases hp : A.pubs = 6
  · exact Agr.no hX hW (e := 1) (by decide) (by decide) (X_publish_no hX hp) fun t ht => ⟨_, M_publish_no ht hp⟩
  · have hpl := hW.pub
    have hp' : A.pubs < 6 := by omega
    obtain ⟨s1, e1, h1, f1⟩ := X_publish_yes hX (hW.tab 7 (by decide)) hp'
    refine Agr.yes (A' := oPub A) (by decide) ⟨?_, ?_, fun t ht => ?_, fun i => ?_, ⟨hW.wk.wl, hW.wk.wb, hW.wk.dlk, hW.wk.dln⟩, ?_, hW.ps, hW.t32⟩ e1 h1 f1 fun t ht => M_publish_yes ht (fun t ht => (hW.tab t ht).2.2) hp'
    · have := hW.now; show A.now ≤ _; omega
    · show A.pubs + 1 ≤ 6; omega
    · show TabOk (u1 A.T (A.pubs + 1) (A.T 7) t)
      by_cases e : t = A.pubs + 1
      · rw [e, u1_at]; exact hW.tab 7 (by decide)
      · rw [u1_ne e]; exact hW.tab t ht
    · show u1 A.S.held 0 (A.pubs + 1) i ≤ A.pubs + 1
      by_cases e : i = 0
      · rw [e, u1_at]; exact Nat.le_refl _
      · rw [u1_ne e]; have := hW.hel i; omega
    · have := hW.ws
      exact ⟨this.cap, this.cpn, this.nhp, this.par, this.kn0, this.k2, this.knn, this.nwn, this.vbn, fun i k => Nat.le_trans (this.hb i k) (by omega), fun i k => Nat.le_trans (this.nb i k) (by omega)⟩
-- best
theorem call_best (hX : RX s A) (hW : WF A c) {x1 x2 x3 : Int32} : Agr (f_X_best x1 x2 x3) (f_M_best x1 x2 x3) 2 1 1 s A c := by
  have key : ∀ (y : Int32), (f_X_best x1 x2 x3 s = if inR 0 8 x1 && inR 0 8 x2 && inR 0 2000000001 x3 then (mm_gf s 0 0 3 fun v34 => mm_cI (f_X_arrival v34 x1 x2 x3 s) fun v40 s40 => mm_ri v40 s40) else mm_th 1 s) := by
    intro _
    unfold f_X_best
    simp only [mm_jn]
    rw [X_isKiosk, cI_ok]
    cases h1 : inR 0 8 x1 with
    | false => rw [if_pos (by decide), show (0 : Int32) = bI false from rfl, X_demand]; rfl
    | true =>
      rw [if_neg (by decide), X_isKiosk, cI_ok]
      cases h2 : inR 0 8 x2 with
      | false => rw [if_pos (by decide), show (0 : Int32) = bI false from rfl, X_demand]; rfl
      | true =>
        rw [if_neg (by decide)]
        unfold inR
        by_cases h3 : x3 < 0
        · rw [if_pos h3, decide_eq_false (fun h => nlt_le.mpr h.1 h3), show (0 : Int32) = bI false from rfl, X_demand]; rfl
        · rw [if_neg h3]
          by_cases h4 : 2000000000 < x3
          · rw [if_pos h4, decide_eq_false (fun h => nle_lt.mpr h4 ((lt_succ_le (a := 2000000000) (by decide)).mp h.2)), show (0 : Int32) = bI false from rfl, X_demand]; rfl
          · rw [if_neg h4, decide_eq_true ⟨nlt_le.mp h3, (lt_succ_le (a := 2000000000) (by decide)).mpr (nlt_le.mp h4)⟩, show (1 : Int32) = bI true from rfl, X_demand]; rfl
  have keyM : ∀ t, (f_M_best x1 x2 x3 t = if inR 0 8 x1 && inR 0 8 x2 && inR 0 2000000001 x3 then (mm_gf (mm_wI t 30 0 31 0) 30 0 4 fun v45 => mm_cI (f_M_arrival v45 x2 x1 x3 (mm_wI t 30 0 31 0)) fun v51 s51 => mm_ri v51 s51) else mm_ri 0 (mm_wI t 30 0 31 1)) := by
    intro t
    unfold f_M_best
    simp only [mm_jn]
    rw [M_isKiosk, cI_ok]
    cases h1 : inR 0 8 x1 with
    | false => rw [if_pos (by decide), pf_ok, gf_ok, wI_y, if_neg (by decide)]; rfl
    | true =>
      rw [if_neg (by decide), M_isKiosk, cI_ok]
      cases h2 : inR 0 8 x2 with
      | false => rw [if_pos (by decide), pf_ok, gf_ok, wI_y, if_neg (by decide)]; rfl
      | true =>
        rw [if_neg (by decide), show (2000000000 : Int32) = nI 2000000000 from rfl, M_upTo (by decide), cI_ok]
        cases h3 : inR 0 (2000000000 + 1) x3 with
        | false => rw [if_pos (by decide), pf_ok, gf_ok, wI_y, if_neg (by decide)]; rfl
        | true => rw [if_neg (by decide), pf_ok, gf_ok, wI_y, if_pos rfl]; rfl
  cases hg : (inR 0 8 x1 && inR 0 8 x2 && inR 0 2000000001 x3) with
  | false =>
    refine Agr.no hX hW (e := 1) (by decide) (by decide) (by rw [key 0, hg]; rfl) fun t ht => ⟨_, _, by rw [keyM, hg]; rfl, wI_y, ht.thr, FrN.wI (by decide)⟩
  | true =>
    have hg' := hg
    simp only [Bool.and_eq_true] at hg
    obtain ⟨a, _, ha2, rfl⟩ := inR_get (by decide) (by decide) hg.1.1
    obtain ⟨k, _, hk2, rfl⟩ := inR_get (by decide) (by decide) hg.1.2
    obtain ⟨m, _, hm2, rfl⟩ := inR_get (by decide) (by decide) hg.2
    have hp6 := hW.pub
    obtain ⟨L, hL, hs, hp⟩ := hX.tab A.pubs (by omega)
    have ok := hW.tab A.pubs (by omega)
    obtain ⟨s1, e1, f1⟩ := X_arrival hL hs hp ok (k := a) (m := m) (g := k) (by omega) ha2 hk2 (by omega)
    refine Agr.yes (by decide) hW.mono (s' := s1) (by rw [key 0, hg', if_pos rfl, gf_ok, hX.pub, e1, cI_ok]) ?_ (FrC.rs f1) fun t ht => ?_
    · exact ⟨by rw [f1.1 0 (by decide)]; exact hX.clk, by rw [f1.1 0 (by decide)]; exact hX.pub, by rw [f1.1 0 (by decide)]; exact hX.tln, fun t ht => (hX.tab t ht).elim fun L hL => ⟨L, hL.1.frr f1, hL.2⟩,
        hX.sto.fr (f1.1 7 (by decide)) (f1.1 8 (by decide)) (f1.1 9 (by decide)) (by rw [f1.2.2]) (f1.1 11 (by decide)), hX.ltr.fr (f1.1 0 (by decide)) (f1.1 19 (by decide)), hX.box.fr (f1.1 15 (by decide)) (f1.1 16 (by decide)) (f1.1 17 (by decide)) (by rw [f1.2.2]), by rw [f1.2.2]; exact hX.txb⟩
    · have ht1 := ht.thr (v := 0)
      obtain ⟨t1, e2, f2⟩ := M_arrival ok (by omega) (st := a) (to := k) (m := m) (by omega) hk2 (by omega) (ht1.tab A.pubs (by omega))
      refine ⟨t1, ?_, ?_, ?_, (FrN.wI (by decide)).tr (FrN.as_ f2)⟩
      · rw [keyM, hg', if_pos rfl, gf_ok, wI_k (by decide), ht.pub, e2, cI_ok, if_pos ha2]
      · rw [(f2 30 (by decide)).1, wI_y]; rfl
      · exact ⟨by rw [(f2 30 (by decide)).1]; exact ht1.clk, by rw [(f2 30 (by decide)).1]; exact ht1.pub, by rw [(f2 30 (by decide)).1]; exact ht1.tln, fun t ht => (ht1.tab t ht).fra f2,
          ht1.sto.fr (f2 35 (by decide)).1 (f2 46 (by decide)).1 (f2 47 (by decide)).1 (f2 48 (by decide)).1 (f2 49 (by decide)).1 (f2 50 (by decide)).1 (f2 51 (by decide)).1 (f2 52 (by decide)).1,
          ⟨by rw [(f2 30 (by decide)).1]; exact ht1.ltr.n, by rw [(f2 36 (by decide)).1]; exact ht1.ltr.sz, by rw [(f2 37 (by decide)).1]; exact ht1.ltr.srt, by rw [(f2 38 (by decide)).1]; exact ht1.ltr.org, by rw [(f2 39 (by decide)).1]; exact ht1.ltr.gl, by rw [(f2 40 (by decide)).1]; exact ht1.ltr.ad, by rw [(f2 41 (by decide)).1]; exact ht1.ltr.ps, by rw [(f2 42 (by decide)).1]; exact ht1.ltr.sm, by rw [(f2 43 (by decide)).1]; exact ht1.ltr.pr, by rw [(f2 44 (by decide)).1]; exact ht1.ltr.ex⟩,
          ⟨by rw [(f2 45 (by decide)).1]; exact ht1.box.dlv, by rw [(f2 53 (by decide)).1]; exact ht1.box.quo, by rw [(f2 54 (by decide)).1]; exact ht1.box.cnt, by rw [(f2 55 (by decide)).1]; exact ht1.box.lie, by rw [(f2 56 (by decide)).1]; exact ht1.box.grp⟩, by rw [(f2 57 (by decide)).1]; exact ht1.txb⟩
end

def AgrV (FX FM : Mem → RR) (s : Mem) (A : Ab) (c : Nat) : Prop := ∃ e A', e < 2 ∧ WF A' (c + 1) ∧ (∃ s', FX s = (if e = 0 then mm_rv s' else mm_th 1 s') ∧ RX s' A' ∧ FrC s s') ∧ ∀ t, RM t A → ∃ t', FM t = mm_rv t' ∧ t'.1 30 0 31 = nI e ∧ RM t' A' ∧ FrN t t'
theorem WB.quo {L : Lts} {B : Bxs} (h : WB' L B) {b q : Nat} (hq : q ≤ 200) : WB' L (mkBxs (u1 B.quo b (some q)) B.lies B.memb B.dl B.dlv) :=
  ⟨h.len, h.mem, fun b' q' h' => by
    have h'' : u1 B.quo b (some q) b' = some q' := h'
    by_cases e : b' = b
    · rw [e, u1_at] at h''; injection h'' with h''; omega
    · rw [u1_ne e] at h''; exact h.q200 _ _ h''⟩
section
variable {s : Mem} {A : Ab} {c : Nat} {x1 x2 x3 x4 : Int32}
theorem RX.box' (h : RX s A) {s' : Mem} (f : ∀ F, F ≠ 15 → F ≠ 16 → F ≠ 17 → s'.1 F = s.1 F) (f2 : s'.2 = s.2) {B : Bxs} (hB : RB s' A.L.sz B) : RX s' (mkAb A.now A.T A.pubs A.S A.L B A.txt) :=
  ⟨by rw [f 0 (by decide) (by decide) (by decide)]; exact h.clk, by rw [f 0 (by decide) (by decide) (by decide)]; exact h.pub, by rw [f 0 (by decide) (by decide) (by decide)]; exact h.tln,
    fun t ht => (h.tab t ht).elim fun L hL => ⟨L, hL.1.fr (f 1 (by decide) (by decide) (by decide)) (f 2 (by decide) (by decide) (by decide)) (f 3 (by decide) (by decide) (by decide)) (f 4 (by decide) (by decide) (by decide)), hL.2⟩,
    h.sto.fr (f 7 (by decide) (by decide) (by decide)) (f 8 (by decide) (by decide) (by decide)) (f 9 (by decide) (by decide) (by decide)) (by rw [f2]) (f 11 (by decide) (by decide) (by decide)), h.ltr.fr (f 0 (by decide) (by decide) (by decide)) (f 19 (by decide) (by decide) (by decide)), hB, by rw [f2]; exact h.txb⟩
theorem RM.box' (h : RM s A) {s' : Mem} (f : ∀ F, F < 53 ∨ 56 < F → s'.1 F = s.1 F) {B : Bxs} (hB : QB s' A.L.sz B) : RM s' (mkAb A.now A.T A.pubs A.S A.L B A.txt) :=
  ⟨by rw [f 30 (by decide)]; exact h.clk, by rw [f 30 (by decide)]; exact h.pub, by rw [f 30 (by decide)]; exact h.tln,
    fun t ht => ⟨by rw [f 34 (by decide)]; exact (h.tab t ht).cnt, by rw [f 31 (by decide), f 32 (by decide), f 33 (by decide)]; exact (h.tab t ht).row⟩,
    h.sto.fr (f 35 (by decide)) (f 46 (by decide)) (f 47 (by decide)) (f 48 (by decide)) (f 49 (by decide)) (f 50 (by decide)) (f 51 (by decide)) (f 52 (by decide)),
    ⟨by rw [f 30 (by decide)]; exact h.ltr.n, by rw [f 36 (by decide)]; exact h.ltr.sz, by rw [f 37 (by decide)]; exact h.ltr.srt, by rw [f 38 (by decide)]; exact h.ltr.org, by rw [f 39 (by decide)]; exact h.ltr.gl, by rw [f 40 (by decide)]; exact h.ltr.ad, by rw [f 41 (by decide)]; exact h.ltr.ps, by rw [f 42 (by decide)]; exact h.ltr.sm, by rw [f 43 (by decide)]; exact h.ltr.pr, by rw [f 44 (by decide)]; exact h.ltr.ex⟩, hB, by rw [f 57 (by decide)]; exact h.txb⟩
theorem WF.box (h : WF A c) {B : Bxs} (hb : WB' A.L B) (hd : B.dl = A.B.dl) : WF (mkAb A.now A.T A.pubs A.S A.L B A.txt) c :=
  ⟨h.now, h.pub, h.tab, h.hel, ⟨h.wk.wl, hb, fun l hl => h.wk.dlk l (by rw [← hd]; exact hl), fun l hl => h.wk.dln l (by rw [← hd]; exact hl)⟩, h.ws, h.ps, h.t32⟩
theorem call_household (hX : RX s A) (hW : WF A c) : AgrV (f_X_household x1 x2 x3) (f_M_household x1 x2 x3) s A c := by
  cases hg : ((inR 0 8 x1 && inR 0 3 x2) && inR 0 201 x3) with
  | false =>
    refine ⟨1, A, by decide, hW.mono, ⟨s, ?_, hX, FrC.rf⟩, fun t ht => ⟨mm_wI t 30 0 31 (nI 1), ?_, wI_y, ht.thr, FrN.wI (by decide)⟩⟩
    · unfold f_X_household
      simp only [mm_jn]
      rw [X_isBox, cI_ok]
      cases h1 : (inR 0 8 x1 && inR 0 3 x2) with
      | false => rw [if_pos (by decide), show (0 : Int32) = bI false from rfl, X_demand]; rfl
      | true =>
        rw [h1] at hg
        have h2 : inR 0 201 x3 = false := hg
        rw [if_neg (by decide), show (201 : Int32) = nI 201 from rfl, X_isWithin, cI_ok, h2, if_pos (by decide), show (0 : Int32) = bI false from rfl, X_demand]; rfl
    · unfold f_M_household
      simp only [mm_jn]
      rw [M_isKiosk, cI_ok]
      cases h1 : inR 0 8 x1 with
      | false => rw [if_pos (by decide), pf_ok, gf_ok, wI_y, if_neg (by decide)]; rfl
      | true =>
        rw [if_neg (by decide), show (2 : Int32) = nI 2 from rfl, M_upTo (by decide), cI_ok]
        cases h2 : inR 0 (2 + 1) x2 with
        | false => rw [if_pos (by decide), pf_ok, gf_ok, wI_y, if_neg (by decide)]; rfl
        | true =>
          have h2' : inR 0 3 x2 = true := h2
          rw [h1, h2'] at hg
          have h3 : inR 0 201 x3 = false := hg
          rw [if_neg (by decide), show (200 : Int32) = nI 200 from rfl, M_upTo (by decide), cI_ok, h3, if_pos (by decide), pf_ok, gf_ok, wI_y, if_neg (by decide)]; rfl
  | true =>
    simp only [Bool.and_eq_true] at hg
    obtain ⟨⟨h1, h2⟩, h3⟩ := hg
    have h12 : (inR 0 8 x1 && inR 0 3 x2) = true := by rw [h1, h2]; rfl
    obtain ⟨g, _, hg, rfl⟩ := inR_get (by decide) (by decide) h1
    obtain ⟨b, _, hb, rfl⟩ := inR_get (by decide) (by decide) h2
    obtain ⟨q, _, hq, rfl⟩ := inR_get (by decide) (by decide) h3
    have hW1 := hW.box (B := (mkBxs (u1 A.B.quo (3 * g + b) (some q)) (A.B).lies (A.B).memb (A.B).dl (A.B).dlv)) (WB.quo hW.wk.wb (by omega)) rfl
    have hX1 : RX (mm_wI s 16 (3 * g + b) 3 (nI q)) (mkAb A.now A.T A.pubs A.S A.L (mkBxs (u1 A.B.quo (3 * g + b) (some q)) (A.B).lies (A.B).memb (A.B).dl (A.B).dlv) A.txt) := by
      refine hX.box' (fun F h1 h2 h3 => wI_ne h2) rfl ⟨hX.box.grp, fun b' hb' => (wI_k (by decide)).trans (hX.box.cnt b' hb'), fun b' hb' => (wI_k (by decide)).trans (hX.box.byt b' hb'), fun b' hb' => ?_, hX.box.lie, hX.box.dlv⟩
      show _ = qv (u1 A.B.quo (3 * g + b) (some q) b')
      by_cases e : b' = 3 * g + b
      · rw [e, wI_y, u1_at]; rfl
      · rw [wI_n (by omega), u1_ne e]; exact hX.box.quo b' hb'
    obtain ⟨s2, e2, h2', f2⟩ := X_lookAll (g := g) hX1 hW1.wk hW1.ws hg
    refine ⟨0, _, by decide, (lkAll_WF (g := g) hW1).mono, ⟨s2, ?_, h2', (FrC.wI (by decide)).tr f2⟩, fun t ht => ?_⟩
    · unfold f_X_household
      simp only [mm_jn]
      rw [X_isBox, h12, cI_ok, if_neg (by decide), show (201 : Int32) = nI 201 from rfl, X_isWithin, cI_ok, h3, if_neg (by decide), show (1 : Int32) = bI true from rfl, X_demand, if_pos rfl, tV_ok, al_ok (by omega) (by omega), al_ok (by omega) (by omega), pf_ok, e2, cV_ok]; rfl
    · have ht1 := ht.thr (v := nI 0)
      have ht2 : RM (mm_wI (mm_wI t 30 0 31 (nI 0)) 53 0 (3 * g + b) (nI q)) (mkAb A.now A.T A.pubs A.S A.L (mkBxs (u1 A.B.quo (3 * g + b) (some q)) (A.B).lies (A.B).memb (A.B).dl (A.B).dlv) A.txt) := by
        refine ht1.box' (fun F h => wI_ne (by omega)) ⟨ht1.box.dlv, fun b' hb' => ?_, ht1.box.cnt, ht1.box.lie, ht1.box.grp⟩
        show _ = qv (u1 A.B.quo (3 * g + b) (some q) b')
        by_cases e : b' = 3 * g + b
        · rw [e, wI_y, u1_at]; rfl
        · rw [wI_n (by omega), u1_ne e]; exact ht1.box.quo b' hb'
      obtain ⟨t3, e3, g3, f3⟩ := M_lookAll (g := g) ht2 hW1.wk hW1.ws hg
      refine ⟨t3, ?_, ?_, g3, ((FrN.wI (by decide)).tr (FrN.wI (by decide))).tr (FrN.ks f3)⟩
      · unfold f_M_household
        simp only [mm_jn]
        rw [M_isKiosk, cI_ok, h1, if_neg (by decide), show (2 : Int32) = nI 2 from rfl, M_upTo (by decide), cI_ok, h2, if_neg (by decide), show (200 : Int32) = nI 200 from rfl, M_upTo (by decide), cI_ok, h3, if_neg (by decide), show (0 : Int32) = nI 0 from rfl, pf_ok, gf_ok, wI_y, if_pos rfl, show (3 : Int32) * nI g + nI b = nI (3 * g + b) by simp only [qI_lit, qI_mul, qI_add], st_ok (by omega) (by omega), e3, cV_ok]
      · rw [(f3 30 (by decide)).1, wI_ne (by decide), wI_y]
-- groups
def tgl (m : Nat → Nat → Nat → Bool) (g t b : Nat) : Nat → Nat → Nat → Bool := fun g' t' b' => if g' = g ∧ t' = t ∧ b' = b then !m g t b else m g' t' b'
theorem tg3 (a b c : Bool) {j : Nat} (hj : j < 3) : nI (mk3 a b c) ^^^ mm_ishl 1 (nI j) = nI (mk3 (if 0 = j then !a else a) (if 1 = j then !b else b) (if 2 = j then !c else c)) := by
  match j, hj with
  | 0, _ => cases a <;> cases b <;> cases c <;> decide
  | 1, _ => cases a <;> cases b <;> cases c <;> decide
  | 2, _ => cases a <;> cases b <;> cases c <;> decide
theorem tg_bit (m : Nat → Nat → Nat → Bool) {g t b : Nat} (hb : b < 3) : bit3 (tgl m g t b g t 0) (tgl m g t b g t 1) (tgl m g t b g t 2) b = !m g t b := by
  match b, hb with
  | 0, _ => simp [bit3, tgl]
  | 1, _ => simp [bit3, tgl]
  | 2, _ => simp [bit3, tgl]
theorem C_toggle (h : RB s A.L.sz A.B) {g t b : Nat} (hg : g < 8) (ht : t < 2) (hb : b < 3) : ∃ s', f_C_toggle g (nI t) (nI b) s = mm_ri (bI (!A.B.memb g t b)) s' ∧ RB s' A.L.sz (mkBxs (A.B).quo (A.B).lies (tgl A.B.memb g t b) (A.B).dl (A.B).dlv) ∧ (∀ F, F ≠ 15 → s'.1 F = s.1 F) ∧ s'.2 = s.2 := by
  have e : nI (mk3 (A.B.memb g t 0) (A.B.memb g t 1) (A.B.memb g t 2)) ^^^ mm_ishl 1 (nI b) = nI (mk3 (tgl A.B.memb g t b g t 0) (tgl A.B.memb g t b g t 1) (tgl A.B.memb g t b g t 2)) := by
    rw [tg3 _ _ _ hb]
    congr 1
    match b, hb with
    | 0, _ => simp [tgl]
    | 1, _ => simp [tgl]
    | 2, _ => simp [tgl]
  unfold f_C_toggle
  rw [ld_ok (by omega) (by omega), h.grp g t hg ht, e, st_ok (by omega) (by omega), ld_ok (by omega) (by omega), wI_y]
  have e2 := bit_ok (tgl A.B.memb g t b g t 0) (tgl A.B.memb g t b g t 1) (tgl A.B.memb g t b g t 2) hb
  rw [tg_bit _ hb] at e2
  refine ⟨mm_wI s 15 g t (nI (mk3 (tgl A.B.memb g t b g t 0) (tgl A.B.memb g t b g t 1) (tgl A.B.memb g t b g t 2))), ?_, ⟨fun g' t' hg' ht' => ?_, h.cnt, h.byt, h.quo, h.lie, h.dlv⟩, fun F hF => wI_ne hF, rfl⟩
  · simp only [show (1 : Int32) = nI 1 from rfl, e2]
    cases A.B.memb g t b <;> rfl
  · show _ = nI (mk3 (tgl A.B.memb g t b g' t' 0) (tgl A.B.memb g t b g' t' 1) (tgl A.B.memb g t b g' t' 2))
    by_cases e9 : g' = g ∧ t' = t
    · rw [e9.1, e9.2, wI_y]
    · rw [wI_n (by omega), h.grp g' t' hg' ht']
      have : ∀ b', tgl A.B.memb g t b g' t' b' = A.B.memb g' t' b' := fun b' => if_neg (fun h9 => e9 ⟨h9.1, h9.2.1⟩)
      rw [this, this, this]
theorem call_group (hX : RX s A) (hW : WF A c) : Agr (f_X_group x1 x2 x3) (f_M_group x1 x2 x3) 2 1 1 s A c := by
  cases hg : ((inR 0 8 x1 && inR 0 3 x3) && inR 0 2 x2) with
  | false =>
    refine Agr.no hX hW (e := 1) (by decide) (by decide) ?_ fun t ht => ⟨nI 0, mm_wI t 30 0 31 (nI 1), ?_, wI_y, ht.thr, FrN.wI (by decide)⟩
    · unfold f_X_group
      simp only [mm_jn]
      rw [X_isBox, cI_ok]
      cases h1 : (inR 0 8 x1 && inR 0 3 x3) with
      | false => rw [if_pos (by decide), show (0 : Int32) = bI false from rfl, X_demand]; rfl
      | true =>
        rw [h1] at hg
        have h2 : inR 0 2 x2 = false := hg
        rw [if_neg (by decide), show (2 : Int32) = nI 2 from rfl, X_isWithin, cI_ok, h2, if_pos (by decide), show (0 : Int32) = bI false from rfl, X_demand]; rfl
    · unfold f_M_group
      simp only [mm_jn]
      rw [M_isKiosk, cI_ok]
      cases h1 : inR 0 8 x1 with
      | false => rw [if_pos (by decide), pf_ok, gf_ok, wI_y, if_neg (by decide)]; rfl
      | true =>
        rw [if_neg (by decide), show (1 : Int32) = nI 1 from rfl, M_upTo (by decide), cI_ok]
        cases h2 : inR 0 (1 + 1) x2 with
        | false => rw [if_pos (by decide), pf_ok, gf_ok, wI_y, if_neg (by decide)]; rfl
        | true =>
          have h2' : inR 0 2 x2 = true := h2
          rw [h1, h2'] at hg
          have h3 : inR 0 3 x3 = false := by cases h : inR 0 3 x3 with
            | false => rfl
            | true => rw [h] at hg; cases hg
          rw [if_neg (by decide), show (2 : Int32) = nI 2 from rfl, M_upTo (by decide), cI_ok, h3, if_pos (by decide), pf_ok, gf_ok, wI_y, if_neg (by decide)]; rfl
  | true =>
    simp only [Bool.and_eq_true] at hg
    obtain ⟨⟨h1, h3⟩, h2⟩ := hg
    have h13 : (inR 0 8 x1 && inR 0 3 x3) = true := by rw [h1, h3]; rfl
    obtain ⟨g, _, hg, rfl⟩ := inR_get (by decide) (by decide) h1
    obtain ⟨t0, _, ht0, rfl⟩ := inR_get (by decide) (by decide) h2
    obtain ⟨b, _, hb, rfl⟩ := inR_get (by decide) (by decide) h3
    have hW1 := hW.box (B := (mkBxs (A.B).quo (A.B).lies (tgl A.B.memb g t0 b) (A.B).dl (A.B).dlv)) ⟨hW.wk.wb.len, hW.wk.wb.mem, hW.wk.wb.q200⟩ rfl
    obtain ⟨s1, e1, hB1, f1, f1'⟩ := C_toggle hX.box hg ht0 hb
    have hX1 := hX.box' (fun F h1 _ _ => f1 F h1) f1' hB1
    have fc1 : FrC s s1 := fun F hF => ⟨f1 F (by omega), by rw [f1']⟩
    have hXe : f_X_group (nI g) (nI t0) (nI b) s = (if bI (!A.B.memb g t0 b) = 0 then mm_rz (bI (!A.B.memb g t0 b)) s1 else mm_cV (f_X_lookAtAllOf (nI g) s1) fun s44 => mm_rz (bI (!A.B.memb g t0 b)) s44) := by
      unfold f_X_group
      simp only [mm_jn]
      rw [X_isBox, h13, cI_ok, if_neg (by decide), show (2 : Int32) = nI 2 from rfl, X_isWithin, cI_ok, h2, if_neg (by decide), show (1 : Int32) = bI true from rfl, X_demand, if_pos rfl, tV_ok, al_ok (by omega) (by omega), e1, cI_ok]
    have key : ∀ t, RM t A → RM (mm_wI (mm_wI t 30 0 31 (nI 0)) 56 0 (6 * g + 3 * t0 + b) (bI (!A.B.memb g t0 b))) (mkAb A.now A.T A.pubs A.S A.L (mkBxs (A.B).quo (A.B).lies (tgl A.B.memb g t0 b) (A.B).dl (A.B).dlv) A.txt) := by
      intro t ht
      have ht1 := ht.thr (v := nI 0)
      refine ht1.box' (fun F h => wI_ne (by omega)) ⟨ht1.box.dlv, ht1.box.quo, ht1.box.cnt, ht1.box.lie, fun g' t' b' hg' ht' hb' => ?_⟩
      show _ = bI (tgl A.B.memb g t0 b g' t' b')
      by_cases e9 : g' = g ∧ t' = t0 ∧ b' = b
      · rw [e9.1, e9.2.1, e9.2.2, wI_y]; unfold tgl; rw [if_pos ⟨rfl, rfl, rfl⟩]
      · rw [wI_n (by omega), ht1.box.grp g' t' b' hg' ht' hb']; unfold tgl; rw [if_neg e9]
    have hMe : ∀ t, RM t A → f_M_group (nI g) (nI t0) (nI b) t = (if bI (!A.B.memb g t0 b) = 0 then (mm_ld (mm_wI (mm_wI t 30 0 31 (nI 0)) 56 0 (6 * g + 3 * t0 + b) (bI (!A.B.memb g t0 b))) 56 0 48 (nI (6 * g + 3 * t0 + b)) fun v96 => mm_rz v96 (mm_wI (mm_wI t 30 0 31 (nI 0)) 56 0 (6 * g + 3 * t0 + b) (bI (!A.B.memb g t0 b)))) else mm_cV (f_M_lookAll (nI g) (mm_wI (mm_wI t 30 0 31 (nI 0)) 56 0 (6 * g + 3 * t0 + b) (bI (!A.B.memb g t0 b)))) fun s87 => mm_ld s87 56 0 48 (nI (6 * g + 3 * t0 + b)) fun v96 => mm_rz v96 s87) := by
      intro t ht
      have ht1 := ht.thr (v := nI 0)
      unfold f_M_group
      simp only [mm_jn]
      rw [M_isKiosk, cI_ok, h1, if_neg (by decide), show (1 : Int32) = nI 1 from rfl, M_upTo (by decide), cI_ok, h2, if_neg (by decide), show (2 : Int32) = nI 2 from rfl, M_upTo (by decide), cI_ok, h3, if_neg (by decide), show (0 : Int32) = nI 0 from rfl, pf_ok, gf_ok, wI_y, if_pos rfl, show (6 : Int32) * nI g + (3 : Int32) * nI t0 + nI b = nI (6 * g + 3 * t0 + b) by simp only [qI_lit, qI_mul, qI_add], ld_ok (by omega) (by omega), ht1.box.grp g t0 b hg ht0 hb]
      cases A.B.memb g t0 b with
      | false => rw [if_neg (by decide), show nI 1 = bI true from rfl, sz_okb (by omega) (by omega), ld_ok (by omega) (by omega), wI_y]; rfl
      | true => rw [if_pos (by decide), show nI 0 = bI false from rfl, sz_okb (by omega) (by omega), ld_ok (by omega) (by omega), wI_y]; rfl
    cases hm : A.B.memb g t0 b with
    | true =>
      refine Agr.yes (by decide) hW1.mono (s' := s1) (v := nI 0) (by rw [hXe, hm, if_pos (by decide)]; rfl) hX1 fc1 fun t ht => ?_
      have hk := key t ht
      have hme := hMe t ht
      rw [hm] at hk hme
      refine ⟨_, by rw [hme, if_pos (by decide), ld_ok (by omega) (by omega), wI_y]; rfl, ?_, hk, (FrN.wI (by decide)).tr (FrN.wI (by decide))⟩
      rw [wI_ne (by decide), wI_y]
    | false =>
      obtain ⟨s2, e2, h2', f2⟩ := X_lookAll (g := g) hX1 hW1.wk hW1.ws hg
      refine Agr.yes (by decide) (lkAll_WF (g := g) hW1).mono (s' := s2) (v := nI 1) (by rw [hXe, hm, if_neg (by decide), e2, cV_ok]; rfl) h2' (fc1.tr f2) fun t ht => ?_
      have hk := key t ht
      have hme := hMe t ht
      obtain ⟨t3, e3, g3, f3⟩ := M_lookAll (g := g) hk hW1.wk hW1.ws hg
      refine ⟨t3, ?_, ?_, g3, ((FrN.wI (by decide)).tr (FrN.wI (by decide))).tr (FrN.ks f3)⟩
      · rw [hme, if_neg (by rw [hm]; decide), e3, cV_ok, ld_ok (by omega) (by omega), (f3 56 (by decide)).1, wI_y, hm]; rfl
      · rw [(f3 30 (by decide)).1, wI_ne (by decide), wI_y]
end

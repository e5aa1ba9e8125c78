-- reboot
def knR (L : Lts) (i j : Nat) (kn : Nat → Nat → Nat) : Nat → Nat → Nat := fun i' l' => if i' = i ∧ j ≤ l' ∧ l' < L.n ∧ ¬ (L.gl l' = i ∨ L.org l' = i) then 0 else kn i' l'
theorem knR_end {L : Lts} {i j : Nat} {kn : Nat → Nat → Nat} (h : L.n ≤ j) : knR L i j kn = kn := by
  funext a b; unfold knR; rw [if_neg (by omega)]
theorem knR_skip {L : Lts} {i j : Nat} {kn : Nat → Nat → Nat} (h : L.gl j = i ∨ L.org j = i) : knR L i j kn = knR L i (j + 1) kn := by
  funext a b; unfold knR
  by_cases e : b = j
  · subst e
    rw [if_neg (fun h9 => h9.2.2.2 h), if_neg (by omega)]
  · by_cases c : a = i ∧ j + 1 ≤ b ∧ b < L.n ∧ ¬ (L.gl b = i ∨ L.org b = i)
    · rw [if_pos c, if_pos ⟨c.1, by omega, c.2.2⟩]
    · rw [if_neg c, if_neg (fun h9 => c ⟨h9.1, by omega, h9.2.2⟩)]
theorem knR_step {L : Lts} {i j : Nat} {kn : Nat → Nat → Nat} (hj : j < L.n) (h : ¬ (L.gl j = i ∨ L.org j = i)) : knR L i j kn = knR L i (j + 1) (u2 kn i j 0) := by
  funext a b; unfold knR
  by_cases e : b = j
  · subst e
    rw [if_neg (c := a = i ∧ b + 1 ≤ b ∧ _) (by omega)]
    by_cases e2 : a = i
    · rw [e2, u2_at, if_pos ⟨rfl, Nat.le_refl _, hj, h⟩]
    · rw [u2_ne (fun h9 => e2 h9.1), if_neg (fun h9 => e2 h9.1)]
  · rw [u2_ne (fun h9 => e h9.2)]
    by_cases c : a = i ∧ j + 1 ≤ b ∧ b < L.n ∧ ¬ (L.gl b = i ∨ L.org b = i)
    · rw [if_pos c, if_pos ⟨c.1, by omega, c.2.2⟩]
    · rw [if_neg c, if_neg (fun h9 => c ⟨h9.1, by omega, h9.2.2⟩)]
section
variable {L : Lts} {sz : Nat → Nat} {i : Nat}
theorem X_reboot_lp (hi : i < 12) (wl : WL L) {now : Nat} {kk : Mem → RR} : ∀ (m n j : Nat) (s : Mem) (S : Sto), RS s sz S → RL s now L → j + m = L.n → m < n → ∃ s', lp_X_reboot_25 (nI i) i kk n (nI j) s = kk s' ∧ RS s' sz (mkSto S.cp S.vb S.hp S.nw (knR L i j S.kn) S.bt S.held S.ea S.rf) ∧ FrS s s' := by
  have h16 := wl.n16
  intro m
  induction m with
  | zero =>
    intro n j s S h hL hj hn
    obtain ⟨n, rfl⟩ : ∃ n', n = n' + 1 := ⟨n - 1, by omega⟩
    unfold lp_X_reboot_25
    rw [gf_ok, hL.n, if_pos (by simp (disch := omega) only [qI_lit, qI_m1, qI_add, qI_mul, qI_le, qI_lt, qI_inj, qI_ne_m, m_ne_nI, m_lt_nI, m_le_nI, qI_lt_m, qI_le_m, qI_sub, qI_div, qI_rem, bI_0, bI_1]; omega)]
    rw [knR_end (by omega)]
    exact ⟨s, rfl, h, FrS.rf⟩
  | succ m ih =>
    intro n j s S h hL hj hn
    obtain ⟨n, rfl⟩ : ∃ n', n = n' + 1 := ⟨n - 1, by omega⟩
    have hg := wl.gl j (by omega)
    have ho := wl.org j (by omega)
    have e1 : nI j + 1 = nI (j + 1) := by simp (disch := omega) only [qI_lit, qI_m1, qI_add, qI_mul, qI_le, qI_lt, qI_inj, qI_ne_m, m_ne_nI, m_lt_nI, m_le_nI, qI_lt_m, qI_le_m, qI_sub, qI_div, qI_rem, bI_0, bI_1]
    unfold lp_X_reboot_25
    rw [gf_ok, hL.n, if_neg (by simp (disch := omega) only [qI_lit, qI_m1, qI_add, qI_mul, qI_le, qI_lt, qI_inj, qI_ne_m, m_ne_nI, m_lt_nI, m_le_nI, qI_lt_m, qI_le_m, qI_sub, qI_div, qI_rem, bI_0, bI_1]; omega), al_ok (by omega) (by omega), gf_ok, hL.gl j (by omega), e1]
    by_cases c1 : L.gl j = i
    · rw [if_pos (by rw [c1]), knR_skip (.inl c1)]
      exact ih n (j + 1) s S h hL (by omega) (by omega)
    · rw [if_neg (by rw [qI_inj (by omega) (by omega)]; exact c1), al_ok (by omega) (by omega), gf_ok, hL.org j (by omega)]
      by_cases c2 : L.org j = i
      · rw [if_pos (by rw [c2]), knR_skip (.inr c2)]
        exact ih n (j + 1) s S h hL (by omega) (by omega)
      · rw [if_neg (by rw [qI_inj (by omega) (by omega)]; exact c2), st_ok (by omega) (by omega), knR_step (by omega) (fun h => h.elim c1 c2)]
        obtain ⟨s2, e2, h2, f2⟩ := ih n (j + 1) _ _ (RS_kn (i := i) (k := j) (t := 0) h) (hL.fr rfl rfl) (by omega) (by omega)
        exact ⟨s2, e2, h2, (FrS.wI (by omega)).tr f2⟩
theorem M_reboot66_lp (hi : i < 12) (wl : WL L) {kk : Mem → RR} : ∀ (m n j : Nat) (s : Mem) (S : Sto), QS s sz S → QL s L → j + m = L.n → m < n → ∃ s', lp_M_reboot_66 (nI i) kk n (nI j) s = kk s' ∧ QS s' sz (mkSto S.cp S.vb S.hp S.nw (knR L i j S.kn) S.bt S.held S.ea S.rf) ∧ FrQ s s' := by
  have h16 := wl.n16
  intro m
  induction m with
  | zero =>
    intro n j s S h hL hj hn
    obtain ⟨n, rfl⟩ : ∃ n', n = n' + 1 := ⟨n - 1, by omega⟩
    unfold lp_M_reboot_66
    rw [gf_ok, hL.n, if_pos (by simp (disch := omega) only [qI_lit, qI_m1, qI_add, qI_mul, qI_le, qI_lt, qI_inj, qI_ne_m, m_ne_nI, m_lt_nI, m_le_nI, qI_lt_m, qI_le_m, qI_sub, qI_div, qI_rem, bI_0, bI_1]; omega)]
    rw [knR_end (by omega)]
    exact ⟨s, rfl, h, FrQ.rf⟩
  | succ m ih =>
    intro n j s S h hL hj hn
    obtain ⟨n, rfl⟩ : ∃ n', n = n' + 1 := ⟨n - 1, by omega⟩
    have hg := wl.gl j (by omega)
    have ho := wl.org j (by omega)
    have e1 : nI j + 1 = nI (j + 1) := by simp (disch := omega) only [qI_lit, qI_m1, qI_add, qI_mul, qI_le, qI_lt, qI_inj, qI_ne_m, m_ne_nI, m_lt_nI, m_le_nI, qI_lt_m, qI_le_m, qI_sub, qI_div, qI_rem, bI_0, bI_1]
    unfold lp_M_reboot_66
    rw [gf_ok, hL.n, if_neg (by simp (disch := omega) only [qI_lit, qI_m1, qI_add, qI_mul, qI_le, qI_lt, qI_inj, qI_ne_m, m_ne_nI, m_lt_nI, m_le_nI, qI_lt_m, qI_le_m, qI_sub, qI_div, qI_rem, bI_0, bI_1]; omega), ld_ok (by omega) (by omega), hL.gl j (by omega), e1]
    by_cases c1 : L.gl j = i
    · rw [if_pos (by rw [c1]), knR_skip (.inl c1)]
      exact ih n (j + 1) s S h hL (by omega) (by omega)
    · rw [if_neg (by rw [qI_inj (by omega) (by omega)]; exact c1), ld_ok (by omega) (by omega), hL.org j (by omega)]
      by_cases c2 : L.org j = i
      · rw [if_pos (by rw [c2]), knR_skip (.inr c2)]
        exact ih n (j + 1) s S h hL (by omega) (by omega)
      · rw [if_neg (by rw [qI_inj (by omega) (by omega)]; exact c2), show (16 : Int32) * nI i + nI j = nI (16 * i + j) by simp only [qI_lit, qI_mul, qI_add], show (0 : Int32) = nI 0 from rfl, st_ok (by omega) (by omega), knR_step (by omega) (fun h => h.elim c1 c2)]
        obtain ⟨s2, e2, h2, f2⟩ := ih n (j + 1) _ _ (QS_kn (l := j) (t := 0) h hi (by omega)) (hL.fr (FrK.q (FrQ.wI (by omega)))) (by omega) (by omega)
        exact ⟨s2, e2, h2, (FrQ.wI (by omega)).tr f2⟩
theorem M_reboot31_lp (hi : i < 12) {kk : Mem → RR} : ∀ (m n j : Nat) (s : Mem) (S : Sto), QS s sz S → j + m = 64 → m < n → ∃ s', lp_M_reboot_31 (nI i) kk n (nI (64 * i + j)) s = kk s' ∧ QS s' sz (mkSto S.cp S.vb S.hp (fun i' k' => if i' = i ∧ S.cp i' k' = false ∧ j ≤ k' ∧ k' < 64 then 0 else S.nw i' k') S.kn S.bt S.held S.ea S.rf) ∧ FrQ s s' := by
  intro m
  induction m with
  | zero =>
    intro n j s S h hp hn
    obtain ⟨n, rfl⟩ : ∃ n', n = n' + 1 := ⟨n - 1, by omega⟩
    unfold lp_M_reboot_31
    rw [show (64 : Int32) * nI i + 64 = nI (64 * i + 64) by simp only [qI_lit, qI_mul, qI_add], if_pos (by simp (disch := omega) only [qI_lit, qI_m1, qI_add, qI_mul, qI_le, qI_lt, qI_inj, qI_ne_m, m_ne_nI, m_lt_nI, m_le_nI, qI_lt_m, qI_le_m, qI_sub, qI_div, qI_rem, bI_0, bI_1]; omega)]
    refine ⟨s, rfl, ?_, FrQ.rf⟩
    have : (fun i' k' => if i' = i ∧ S.cp i' k' = false ∧ j ≤ k' ∧ k' < 64 then 0 else S.nw i' k') = S.nw := by
      funext a b; rw [if_neg (by omega)]
    rw [this]; exact h
  | succ m ih =>
    intro n j s S h hp hn
    obtain ⟨n, rfl⟩ : ∃ n', n = n' + 1 := ⟨n - 1, by omega⟩
    unfold lp_M_reboot_31
    have e2 : nI (64 * i + j) + 1 = nI (64 * i + (j + 1)) := by simp only [qI_lit, qI_add]; congr 1
    rw [show (64 : Int32) * nI i + 64 = nI (64 * i + 64) by simp only [qI_lit, qI_mul, qI_add], if_neg (by simp (disch := omega) only [qI_lit, qI_m1, qI_add, qI_mul, qI_le, qI_lt, qI_inj, qI_ne_m, m_ne_nI, m_lt_nI, m_le_nI, qI_lt_m, qI_le_m, qI_sub, qI_div, qI_rem, bI_0, bI_1]; omega), ld_ok (by omega) (by omega), h.cop i j hi (by omega), e2]
    cases hc : S.cp i j with
    | true =>
      rw [if_pos (by decide)]
      obtain ⟨s2, e3, h2, f2⟩ := ih n (j + 1) s S h (by omega) (by omega)
      refine ⟨s2, e3, ?_, f2⟩
      have : (fun i' k' => if i' = i ∧ S.cp i' k' = false ∧ j ≤ k' ∧ k' < 64 then 0 else S.nw i' k') = (fun i' k' => if i' = i ∧ S.cp i' k' = false ∧ j + 1 ≤ k' ∧ k' < 64 then 0 else S.nw i' k') := by
        funext a b
        by_cases c1 : a = i ∧ b = j
        · rw [c1.1, c1.2, hc]; simp
        · by_cases c2 : a = i ∧ S.cp a b = false ∧ j + 1 ≤ b ∧ b < 64
          · rw [if_pos c2, if_pos ⟨c2.1, c2.2.1, by omega, by omega⟩]
          · rw [if_neg c2, if_neg (fun h9 => c2 ⟨h9.1, h9.2.1, by omega, by omega⟩)]
      rw [this]; exact h2
    | false =>
      rw [if_neg (by decide), show (0 : Int32) = nI 0 from rfl, st_ok (by omega) (by omega)]
      obtain ⟨s2, e3, h2, f2⟩ := ih n (j + 1) _ _ (QS_nw (k := j) (t := 0) h hi (by omega) (by omega)) (by omega) (by omega)
      refine ⟨s2, e3, ?_, (FrQ.wI (by omega)).tr f2⟩
      have : (fun i' k' => if i' = i ∧ S.cp i' k' = false ∧ j ≤ k' ∧ k' < 64 then 0 else S.nw i' k') = (fun i' k' => if i' = i ∧ S.cp i' k' = false ∧ j + 1 ≤ k' ∧ k' < 64 then 0 else u2 S.nw i j 0 i' k') := by
        funext a b
        by_cases c1 : a = i ∧ b = j
        · rw [c1.1, c1.2, hc, u2_at]; simp
          intro h9; omega
        · rw [u2_ne c1]
          by_cases c2 : a = i ∧ S.cp a b = false ∧ j + 1 ≤ b ∧ b < 64
          · rw [if_pos c2, if_pos ⟨c2.1, c2.2.1, by omega, by omega⟩]
          · rw [if_neg c2, if_neg (fun h9 => c2 ⟨h9.1, h9.2.1, by omega, by omega⟩)]
      rw [this]; exact h2
theorem QS_cut {s : Mem} {S : Sto} (h : QS s sz S) {nw : Nat → Nat → Nat} (e : ∀ i k, i < 12 → k < 64 → nw i k = S.nw i k) (hb : ∀ i k, nw i k < 1000000) : QS s sz (mkSto S.cp S.vb S.hp (nw) S.kn S.bt S.held S.ea S.rf) :=
  ⟨h.hel, h.cop, h.hop, fun i k hi hk => (h.new i k hi hk).trans (congrArg nI (e i k hi hk).symm), h.byt, h.kno, h.exl, h.ref, h.hlt, hb, h.vcp, h.szl⟩
end
def oReb (L : Lts) (S : Sto) (i : Nat) : Sto := (mkSto S.cp S.vb S.hp (fun i' k' => if i' = i ∧ S.cp i' k' = false then 0 else S.nw i' k') (knR L i 0 S.kn) S.bt (u1 S.held i 0) S.ea S.rf)
theorem RX.sto' {s s' : Mem} {A : Ab} (h : RX s A) (f : FrS s s') {S : Sto} (hS : RS s' A.L.sz S) : RX s' (mkAb A.now A.T A.pubs S A.L A.B A.txt) := h.lk (FrL.s f) hS (h.box.frs f)
theorem RM.sto' {s s' : Mem} {A : Ab} (h : RM s A) (f : FrQ s s') {S : Sto} (hS : QS s' A.L.sz S) : RM s' (mkAb A.now A.T A.pubs S A.L A.B A.txt) := h.lk (FrK.q f) hS (h.box.frq f)
section
variable {s : Mem} {A : Ab} {c : Nat} {x1 x2 x3 x4 x5 : Int32}
theorem call_reboot (hX : RX s A) (hW : WF A c) : AgrV (f_X_reboot x1) (f_M_reboot x1) s A c := by
  have wl := hW.wk.wl
  have ws := hW.ws
  have h16 := wl.n16
  cases hg : inR 0 12 x1 with
  | false =>
    refine ⟨1, A, by decide, hW.mono, ⟨s, ?_, hX, FrC.rf⟩, fun t ht => ⟨mm_wI t 30 0 31 (nI 1), ?_, wI_y, ht.thr, FrN.wI (by decide)⟩⟩
    · unfold f_X_reboot
      rw [X_isStore, hg, cI_ok, X_demand]; rfl
    · unfold f_M_reboot
      simp only [mm_jn]
      rw [show (11 : Int32) = nI 11 from rfl, M_upTo (by decide), hg, cI_ok, if_pos (by decide), pf_ok, gf_ok, wI_y, if_neg (by decide)]; rfl
  | true =>
    have hg' := hg
    obtain ⟨i, _, hi, rfl⟩ := inR_get (by decide) (by decide) hg
    have hkle : ∀ i' l, knR A.L i 0 A.S.kn i' l ≤ A.S.kn i' l := by
      intro i' l; unfold knR; split
      · exact Nat.zero_le _
      · exact Nat.le_refl _
    have hW1 : WF (mkAb A.now A.T A.pubs (oReb A.L A.S i) A.L A.B A.txt) c := by
      refine ⟨hW.now, hW.pub, hW.tab, fun k => ?_, ⟨wl, hW.wk.wb, fun l hl => ?_, hW.wk.dln⟩, ⟨ws.cap, ws.cpn, fun i' k hk => ?_, ws.par, fun i' k hk => ws.kn0 i' k ?_, fun i' l => Nat.le_trans (hkle i' l) (ws.k2 i' l), fun i' l hl => Nat.le_zero.mp (Nat.le_trans (hkle i' l) (Nat.le_of_eq (ws.knn i' l hl))), fun i' k hk => ?_, ws.vbn, ws.hb, fun i' k => ?_⟩, hW.ps, hW.t32⟩
      · show u1 A.S.held i 0 k ≤ A.pubs
        by_cases e : k = i
        · rw [e, u1_at]; exact Nat.zero_le _
        · rw [u1_ne e]; exact hW.hel k
      · show knR A.L i 0 A.S.kn (A.L.gl l) l ≠ 0
        unfold knR
        rw [if_neg (fun h => h.2.2.2 (.inl h.1))]
        exact hW.wk.dlk l hl
      · have hk' : A.S.cp i' k = true := hk
        show (if i' = i ∧ A.S.cp i' k = false then 0 else A.S.nw i' k) = A.S.hp i' k
        rw [if_neg (by rw [hk']; simp)]; exact ws.nhp i' k hk'
      · have hk' : knR A.L i 0 A.S.kn i' (k / 4) ≠ 0 := hk
        have := hkle i' (k / 4)
        omega
      · show (if i' = i ∧ A.S.cp i' k = false then 0 else A.S.nw i' k) = 0
        split
        · rfl
        · exact ws.nwn i' k hk
      · show (if i' = i ∧ A.S.cp i' k = false then 0 else A.S.nw i' k) ≤ _
        split
        · exact Nat.zero_le _
        · exact ws.nb i' k
    obtain ⟨s2, e2, h2, f2⟩ := S_forget (RS_held (i := i) (t := 0) hX.sto) hi
    have f02 : FrS s s2 := (FrS.wI (by omega)).tr f2
    obtain ⟨s3, e3, h3, f3⟩ := X_reboot_lp (sz := A.L.sz) hi wl (kk := fun s25 => mm_rv s25) A.L.n FU 0 s2 _ h2 (hX.ltr.frl (FrL.s f02)) (by omega) (by unfold FU; omega)
    refine ⟨0, mkAb A.now A.T A.pubs (oReb A.L A.S i) A.L A.B A.txt, by decide, hW1.mono, ⟨s3, ?_, hX.sto' (f02.tr f3) h3, FrC.ss (f02.tr f3)⟩, fun t ht => ?_⟩
    · unfold f_X_reboot
      rw [X_isStore, hg', cI_ok, X_demand, if_pos rfl, tV_ok, al_ok (by omega) (by omega), pf_ok, show (0 : Int32) = nI 0 from rfl, e2, cV_ok]
      exact e3
    · have ht1 := ht.thr (v := nI 0)
      obtain ⟨t2, et2, ht2, ft2⟩ := M_reboot31_lp (sz := A.L.sz) hi (kk := fun s31 => mm_lp (fun kk => lp_M_reboot_66 (nI i) kk FU ((0 : Int32)) s31) fun s66 => mm_st s66 35 0 12 (nI i) ((0 : Int32)) fun s118 => mm_rv s118) 64 FU 0 _ _ ht1.sto (by omega) (by unfold FU; omega)
      have ht2' := QS_cut ht2 (nw := fun i' k' => if i' = i ∧ A.S.cp i' k' = false then 0 else A.S.nw i' k') (fun a b ha hb => by
        show (if _ then _ else _) = (if _ then _ else _)
        by_cases c : a = i ∧ A.S.cp a b = false
        · rw [if_pos c, if_pos ⟨c.1, c.2, by omega, hb⟩]
        · rw [if_neg c, if_neg (fun h9 => c ⟨h9.1, h9.2.1⟩)]) (fun a b => by
        split
        · omega
        · exact ht.sto.nlt _ _)
      obtain ⟨t3, et3, ht3, ft3⟩ := M_reboot66_lp (sz := A.L.sz) hi wl (kk := fun s66 => mm_st s66 35 0 12 (nI i) ((0 : Int32)) fun s118 => mm_rv s118) A.L.n FU 0 t2 _ ht2' (ht1.ltr.fr (FrK.q ft2)) (by omega) (by unfold FU; omega)
      have f3' := ft2.tr ft3
      refine ⟨mm_wI t3 35 0 i (nI 0), ?_, ?_, ht1.sto' (f3'.tr (FrQ.wI (by omega))) (QS_held ht3), (FrN.wI (by decide)).tr (FrN.qs (f3'.tr (FrQ.wI (by omega))))⟩
      · unfold f_M_reboot
        simp only [mm_jn]
        rw [show (11 : Int32) = nI 11 from rfl, M_upTo (by decide), hg', cI_ok, if_neg (by decide), show (0 : Int32) = nI 0 from rfl, pf_ok, gf_ok, wI_y, if_pos rfl]
        refine Eq.trans ?_ (et2.trans (et3.trans ?_))
        · show lp_M_reboot_31 (nI i) _ FU (64 * nI i) _ = lp_M_reboot_31 (nI i) _ FU (nI (64 * i + 0)) _
          rw [show (64 : Int32) * nI i = nI (64 * i + 0) by simp only [qI_lit, qI_mul]; rfl]; rfl
        · rw [st_ok (by omega) (by omega)]; rfl
      · rw [wI_ne (by decide), (ft3 30 (by decide)).1, (ft2 30 (by decide)).1, wI_y]
end

theorem RS_ea {s : Mem} {sz : Nat → Nat} {S : Sto} (h : RS s sz S) {i t : Nat} : RS (mm_wI s 7 i 7 (nI t)) sz (mkSto S.cp S.vb S.hp S.nw S.kn S.bt S.held (u1 S.ea i t) S.rf) := by
  refine ⟨fun i' hi' => (wI_k (by decide)).trans (h.cap i' hi'), fun i' hi' => (wI_k (by decide)).trans (h.cop i' hi'), fun i' hi' => (wI_k (by decide)).trans (h.hel i' hi'), fun i' hi' => ?_, fun i' hi' => (wI_k (by decide)).trans (h.ref i' hi'), h.hop, h.new, h.kno, h.byt, h.hlt, h.nlt, h.vcp⟩
  show _ = nI (u1 S.ea i t i')
  by_cases e : i' = i
  · rw [e, wI_y, u1_at]
  · rw [wI_n (by omega), u1_ne e]; exact h.exl i' hi'
theorem RS_ce {s : Mem} {sz : Nat → Nat} {S : Sto} (h : RS s sz S) {cp : Nat → Nat → Bool} {ea : Nat → Nat} (h1 : ∀ i k, i < 12 → k < 64 → cp i k = S.cp i k) (h2 : ∀ i, i < 12 → ea i = S.ea i) (h3 : ∀ i k, cp i k = true → S.vb i k = true) : RS s sz (mkSto (cp) S.vb S.hp S.nw S.kn S.bt S.held (ea) S.rf) :=
  ⟨h.cap, fun i hi => (h.cop i hi).trans (congrArg nI (cN_congr fun k hk => (h1 i k hi hk).symm)), h.hel, fun i hi => (h.exl i hi).trans (congrArg nI (h2 i hi).symm), h.ref, fun i k hi hk => by
    show _ = if cp i k then nI (S.hp i k) else mone
    rw [h1 i k hi hk]; exact h.hop i k hi hk, h.new, h.kno, h.byt, h.hlt, h.nlt, h3⟩
theorem QS_ce {s : Mem} {sz : Nat → Nat} {S : Sto} (h : QS s sz S) {cp : Nat → Nat → Bool} {ea : Nat → Nat} (h1 : ∀ i k, i < 12 → k < 64 → cp i k = S.cp i k) (h2 : ∀ i, i < 12 → ea i = S.ea i) (h3 : ∀ i k, cp i k = true → S.vb i k = true) : QS s sz (mkSto (cp) S.vb S.hp S.nw S.kn S.bt S.held (ea) S.rf) :=
  ⟨h.hel, fun i k hi hk => (h.cop i k hi hk).trans (congrArg bI (h1 i k hi hk).symm), h.hop, h.new, h.byt, h.kno, fun i hi => (h.exl i hi).trans (congrArg nI (h2 i hi).symm), h.ref, h.hlt, h.nlt, h3, h.szl⟩
/-- the stores from i on without letter l -/
def oDrp (S : Sto) (l : Nat) (e : Bool) (i : Nat) : Sto := (mkSto (fun i' k => if i ≤ i' ∧ i' < 12 ∧ k / 4 = l then false else S.cp i' k) S.vb S.hp S.nw S.kn S.bt S.held (fun i' => S.ea i' + (if i ≤ i' ∧ i' < 12 then (if e && decide (c4 (S.cp i') l ≠ 0) then 1 else 0) else 0)) S.rf)
theorem oDrp_step {S : Sto} {l i : Nat} {e : Bool} (hi : i < 12) : oDrp (oFree4 (mkSto S.cp S.vb S.hp S.nw S.kn S.bt S.held (u1 S.ea i (S.ea i + (if e && decide (c4 (S.cp i) l ≠ 0) then 1 else 0))) S.rf) i l) l e (i + 1) = oDrp S l e i := by
  have h1 : (fun i' k => if i + 1 ≤ i' ∧ i' < 12 ∧ k / 4 = l then false else (if i' = i ∧ k / 4 = l then false else S.cp i' k)) = (fun i' k => if i ≤ i' ∧ i' < 12 ∧ k / 4 = l then false else S.cp i' k) := by
    funext i' k
    by_cases c1 : i + 1 ≤ i' ∧ i' < 12 ∧ k / 4 = l
    · rw [if_pos c1, if_pos (by omega)]
    · rw [if_neg c1]
      by_cases c2 : i' = i ∧ k / 4 = l
      · rw [if_pos c2, if_pos (by omega)]
      · rw [if_neg c2, if_neg (by omega)]
  have h2 : (fun i' => u1 S.ea i (S.ea i + (if e && decide (c4 (S.cp i) l ≠ 0) then 1 else 0)) i' + (if i + 1 ≤ i' ∧ i' < 12 then (if e && decide (c4 (fun k => if i' = i ∧ k / 4 = l then false else S.cp i' k) l ≠ 0) then 1 else 0) else 0)) = (fun i' => S.ea i' + (if i ≤ i' ∧ i' < 12 then (if e && decide (c4 (S.cp i') l ≠ 0) then 1 else 0) else 0)) := by
    funext i'
    by_cases c1 : i' = i
    · rw [c1, u1_at, if_neg (c := i + 1 ≤ i ∧ i < 12) (by omega), if_pos (c := i ≤ i ∧ i < 12) (by omega)]; rfl
    · rw [u1_ne c1]
      have e1 : c4 (fun k => if i' = i ∧ k / 4 = l then false else S.cp i' k) l = c4 (S.cp i') l := c4_congr fun k _ => if_neg (fun h => c1 h.1)
      rw [e1]
      by_cases c2 : i + 1 ≤ i' ∧ i' < 12
      · rw [if_pos c2, if_pos (c := i ≤ i' ∧ i' < 12) (by omega)]
      · rw [if_neg c2, if_neg (c := i ≤ i' ∧ i' < 12) (by omega)]
  show (mkSto (fun i' k => if i + 1 ≤ i' ∧ i' < 12 ∧ k / 4 = l then false else (if i' = i ∧ k / 4 = l then false else S.cp i' k)) S.vb S.hp S.nw S.kn S.bt S.held (fun i' => u1 S.ea i (S.ea i + (if e && decide (c4 (S.cp i) l ≠ 0) then 1 else 0)) i' + (if i + 1 ≤ i' ∧ i' < 12 then (if e && decide (c4 (fun k => if i' = i ∧ k / 4 = l then false else S.cp i' k) l ≠ 0) then 1 else 0) else 0)) S.rf) = _
  rw [h1, h2]; rfl
theorem oDrp_end {S : Sto} {l : Nat} {e : Bool} : oDrp S l e 12 = S := by
  have h1 : (fun i' k => if 12 ≤ i' ∧ i' < 12 ∧ k / 4 = l then false else S.cp i' k) = S.cp := by funext i' k; rw [if_neg (by omega)]
  have h2 : (fun i' => S.ea i' + (if 12 ≤ i' ∧ i' < 12 then (if e && decide (c4 (S.cp i') l ≠ 0) then 1 else 0) else 0)) = S.ea := by funext i'; rw [if_neg (by omega)]; rfl
  unfold oDrp; rw [h1, h2]
section
variable {sz : Nat → Nat} {l : Nat} {e : Bool}
theorem X_drop_lp (hl : l < 16) {kk : Mem → RR} : ∀ (m n i : Nat) (s : Mem) (S : Sto), RS s sz S → i + m = 12 → m < n → ∃ s', lp_X_dropCopies_2 (nI l) (bI e) kk n (nI i) s = kk s' ∧ RS s' sz (oDrp S l e i) ∧ FrS s s' := by
  intro m
  induction m with
  | zero =>
    intro n i s S h hi hn
    obtain ⟨n, rfl⟩ : ∃ n', n = n' + 1 := ⟨n - 1, by omega⟩
    unfold lp_X_dropCopies_2
    rw [if_pos (by simp (disch := omega) only [qI_lit, qI_m1, qI_add, qI_mul, qI_le, qI_lt, qI_inj, qI_ne_m, m_ne_nI, m_lt_nI, m_le_nI, qI_lt_m, qI_le_m, qI_sub, qI_div, qI_rem, bI_0, bI_1]; omega), show i = 12 by omega, oDrp_end]
    exact ⟨s, rfl, h, FrS.rf⟩
  | succ m ih =>
    intro n i s S h hi hn
    obtain ⟨n, rfl⟩ : ∃ n', n = n' + 1 := ⟨n - 1, by omega⟩
    unfold lp_X_dropCopies_2
    have e1 : nI i + 1 = nI (i + 1) := by simp (disch := omega) only [qI_lit, qI_m1, qI_add, qI_mul, qI_le, qI_lt, qI_inj, qI_ne_m, m_ne_nI, m_lt_nI, m_le_nI, qI_lt_m, qI_le_m, qI_sub, qI_div, qI_rem, bI_0, bI_1]
    have h4 : c4 (S.cp i) l ≤ 4 := cN_le _ _
    have key : ∀ s0, RS s0 sz (mkSto S.cp S.vb S.hp S.nw S.kn S.bt S.held (u1 S.ea i (S.ea i + (if e && decide (c4 (S.cp i) l ≠ 0) then 1 else 0))) S.rf) → ∃ s', (mm_al 12 (nI i) fun j45 => mm_cV (f_S_freeAllOf j45 (nI l) s0) fun s47 => lp_X_dropCopies_2 (nI l) (bI e) kk n (nI (i + 1)) s47) = kk s' ∧ RS s' sz (oDrp S l e i) ∧ FrS s0 s' := by
      intro s0 h0
      obtain ⟨s1, e2, h1, f1⟩ := S_freeAllOf h0 (show i < 12 by omega) hl
      obtain ⟨s2, e3, h2, f2⟩ := ih n (i + 1) s1 _ h1 (by omega) (by omega)
      rw [al_ok (by omega) (by omega), e2, cV_ok]
      rw [oDrp_step (by omega)] at h2
      exact ⟨s2, e3, h2, f1.tr f2⟩
    rw [if_neg (by simp (disch := omega) only [qI_lit, qI_m1, qI_add, qI_mul, qI_le, qI_lt, qI_inj, qI_ne_m, m_ne_nI, m_lt_nI, m_le_nI, qI_lt_m, qI_le_m, qI_sub, qI_div, qI_rem, bI_0, bI_1]; omega), e1, jn_ok]
    cases he : e with
    | false =>
      rw [if_pos (by decide)]
      rw [he] at key
      have : u1 S.ea i (S.ea i + (if false && decide (c4 (S.cp i) l ≠ 0) then 1 else 0)) = S.ea := u1_same rfl
      rw [this] at key
      exact key s h
    | true =>
      rw [he] at key
      rw [if_neg (by decide), al_ok (by omega) (by omega), S_countOf h (by omega) hl, cI_ok]
      by_cases hc : c4 (S.cp i) l = 0
      · rw [if_pos (by rw [hc]; decide)]
        have : u1 S.ea i (S.ea i + (if true && decide (c4 (S.cp i) l ≠ 0) then 1 else 0)) = S.ea := u1_same (by rw [hc]; rfl)
        rw [this] at key
        exact key s h
      · rw [if_neg (by rw [show (0 : Int32) = nI 0 from rfl, qI_le (by omega) (by omega)]; omega), al_ok (by omega) (by omega), gf_ok, pf_ok, h.exl i (by omega), show nI (S.ea i) + 1 = nI (S.ea i + 1) by simp only [qI_lit, qI_add]]
        have : (S.ea i + (if true && decide (c4 (S.cp i) l ≠ 0) then 1 else 0)) = S.ea i + 1 := by rw [decide_eq_true hc]; rfl
        rw [this] at key
        obtain ⟨s', k1, k2, k3⟩ := key _ (RS_ea (i := i) (t := S.ea i + 1) h)
        exact ⟨s', k1, k2, (FrS.wI (by omega)).tr k3⟩
theorem drp_exp {s : Mem} {S : Sto} (h : RS s sz (oDrp S l e 0)) : RS s sz (oExp1 S l e) := by
  refine RS_ce h (cp := fun i k => if k / 4 = l then false else S.cp i k) (ea := fun i => S.ea i + (if e && decide (c4 (S.cp i) l ≠ 0) then 1 else 0)) (fun i k hi _ => ?_) (fun i hi => ?_) (fun i k hk => ?_)
  · show _ = if 0 ≤ i ∧ i < 12 ∧ k / 4 = l then false else S.cp i k
    by_cases c : k / 4 = l
    · rw [if_pos c, if_pos (by omega)]
    · rw [if_neg c, if_neg (by omega)]
  · show _ = S.ea i + (if 0 ≤ i ∧ i < 12 then _ else _)
    rw [if_pos (c := 0 ≤ i ∧ i < 12) (by omega)]
  · by_cases c : k / 4 = l
    · simp only [if_pos c] at hk; cases hk
    · simp only [if_neg c] at hk
      refine h.vcp i k ?_
      show (if 0 ≤ i ∧ i < 12 ∧ k / 4 = l then false else S.cp i k) = true
      rw [if_neg (fun h => c h.2.2)]; exact hk
theorem X_drop {s : Mem} {S : Sto} (h : RS s sz S) (hl : l < 16) : ∃ s', f_X_dropCopies (nI l) (bI e) s = mm_rv s' ∧ RS s' sz (oExp1 S l e) ∧ FrS s s' := by
  unfold f_X_dropCopies
  obtain ⟨s', e1, h1, f1⟩ := X_drop_lp (sz := sz) (e := e) hl (kk := fun s2 => mm_rv s2) 12 FU 0 s S h (by omega) (by unfold FU; omega)
  exact ⟨s', e1, drp_exp h1, f1⟩
-- the reference's
theorem M_exp43_lp {S : Sto} (hl : l < 16) {i : Nat} (hi : i < 12) {kk : Int32 → Mem → RR} : ∀ (m n p : Nat) (s : Mem), QS s sz (mkSto (fun i' k => if i' = i ∧ 4 * l ≤ k ∧ k < 4 * l + p then false else S.cp i' k) S.vb S.hp S.nw S.kn S.bt S.held S.ea S.rf) → p + m = 4 → m < n →
    ∃ s', lp_M_expire_43 (nI l) (nI i) kk n (bI (decide (cN (fun q => S.cp i (4 * l + q)) p ≠ 0))) (nI p) s = kk (bI (decide (c4 (S.cp i) l ≠ 0))) s' ∧ QS s' sz (mkSto (fun i' k => if i' = i ∧ 4 * l ≤ k ∧ k < 4 * l + 4 then false else S.cp i' k) S.vb S.hp S.nw S.kn S.bt S.held S.ea S.rf) ∧ FrQ s s' := by
  intro m
  induction m with
  | zero =>
    intro n p s h hp hn
    obtain ⟨n, rfl⟩ : ∃ n', n = n' + 1 := ⟨n - 1, by omega⟩
    have e0 : p = 4 := by omega
    subst e0
    unfold lp_M_expire_43
    rw [if_pos (by simp (disch := omega) only [qI_lit, qI_m1, qI_add, qI_mul, qI_le, qI_lt, qI_inj, qI_ne_m, m_ne_nI, m_lt_nI, m_le_nI, qI_lt_m, qI_le_m, qI_sub, qI_div, qI_rem, bI_0, bI_1]; omega)]
    exact ⟨s, rfl, h, FrQ.rf⟩
  | succ m ih =>
    intro n p s h hp hn
    obtain ⟨n, rfl⟩ : ∃ n', n = n' + 1 := ⟨n - 1, by omega⟩
    unfold lp_M_expire_43
    have e1 : nI p + 1 = nI (p + 1) := by simp (disch := omega) only [qI_lit, qI_m1, qI_add, qI_mul, qI_le, qI_lt, qI_inj, qI_ne_m, m_ne_nI, m_lt_nI, m_le_nI, qI_lt_m, qI_le_m, qI_sub, qI_div, qI_rem, bI_0, bI_1]
    have hcp := h.cop i (4 * l + p) hi (by omega)
    have hcp2 : s.1 46 0 (64 * i + (4 * l + p)) = bI (S.cp i (4 * l + p)) := by
      rw [hcp]; show bI (if _ then _ else _) = _; rw [if_neg (by omega)]
    have h1 := QS_cp (i := i) (k := 4 * l + p) (b := false) h hi (by omega) (fun h => nomatch h)
    have h2 : QS (mm_wI s 46 0 (64 * i + (4 * l + p)) (bI false)) sz (mkSto (fun i' k => if i' = i ∧ 4 * l ≤ k ∧ k < 4 * l + (p + 1) then false else S.cp i' k) S.vb S.hp S.nw S.kn S.bt S.held S.ea S.rf) := by
      rw [rng_up]; exact h1
    obtain ⟨s', e2, h3, f3⟩ := ih n (p + 1) _ h2 (by omega) (by omega)
    refine ⟨s', ?_, h3, (FrQ.wI (by omega)).tr f3⟩
    rw [if_neg (by simp (disch := omega) only [qI_lit, qI_m1, qI_add, qI_mul, qI_le, qI_lt, qI_inj, qI_ne_m, m_ne_nI, m_lt_nI, m_le_nI, qI_lt_m, qI_le_m, qI_sub, qI_div, qI_rem, bI_0, bI_1]; omega), M_at, cI_ok, ld_ok (by omega) (by omega), show 64 * i + 4 * l + p = 64 * i + (4 * l + p) by omega, hcp2, jn_ok, e1]
    cases hc : S.cp i (4 * l + p) with
    | false =>
      have e4 : cN (fun q => S.cp i (4 * l + q)) (p + 1) = cN (fun q => S.cp i (4 * l + q)) p := by simp only [cN, hc]; rfl
      rw [e4] at e2
      rw [if_pos (by decide)]
      show (mm_cI (f_M_at (nI i) (nI l) (nI p) s) fun v74 s74 => mm_sz s74 46 0 768 v74 0 fun s78 => lp_M_expire_43 (nI l) (nI i) kk n (bI (decide (cN (fun q => S.cp i (4 * l + q)) p ≠ 0))) (nI (p + 1)) s78) = _
      rw [M_at, cI_ok, show (0 : Int32) = bI false from rfl, sz_okb (by omega) (by omega), show 64 * i + 4 * l + p = 64 * i + (4 * l + p) by omega]
      exact e2
    | true =>
      have e4 : cN (fun q => S.cp i (4 * l + q)) (p + 1) ≠ 0 := by simp only [cN, hc]; simp
      rw [decide_eq_true e4] at e2
      rw [if_neg (by decide)]
      show (mm_cI (f_M_at (nI i) (nI l) (nI p) s) fun v74 s74 => mm_sz s74 46 0 768 v74 0 fun s78 => lp_M_expire_43 (nI l) (nI i) kk n (bI true) (nI (p + 1)) s78) = _
      rw [M_at, cI_ok, show (0 : Int32) = bI false from rfl, sz_okb (by omega) (by omega), show 64 * i + 4 * l + p = 64 * i + (4 * l + p) by omega]
      exact e2
theorem M_exp32_lp (hl : l < 16) {kk : Mem → RR} : ∀ (m n i : Nat) (s : Mem) (S : Sto), QS s sz S → s.1 44 0 l = bI e → i + m = 12 → m < n → ∃ s', lp_M_expire_32 (nI l) kk n (nI i) s = kk s' ∧ QS s' sz (oDrp S l e i) ∧ FrQ s s' := by
  intro m
  induction m with
  | zero =>
    intro n i s S h h44 hi hn
    obtain ⟨n, rfl⟩ : ∃ n', n = n' + 1 := ⟨n - 1, by omega⟩
    unfold lp_M_expire_32
    rw [if_pos (by simp (disch := omega) only [qI_lit, qI_m1, qI_add, qI_mul, qI_le, qI_lt, qI_inj, qI_ne_m, m_ne_nI, m_lt_nI, m_le_nI, qI_lt_m, qI_le_m, qI_sub, qI_div, qI_rem, bI_0, bI_1]; omega), show i = 12 by omega, oDrp_end]
    exact ⟨s, rfl, h, FrQ.rf⟩
  | succ m ih =>
    intro n i s S h h44 hi hn
    obtain ⟨n, rfl⟩ : ∃ n', n = n' + 1 := ⟨n - 1, by omega⟩
    unfold lp_M_expire_32
    have e1 : nI i + 1 = nI (i + 1) := by simp (disch := omega) only [qI_lit, qI_m1, qI_add, qI_mul, qI_le, qI_lt, qI_inj, qI_ne_m, m_ne_nI, m_lt_nI, m_le_nI, qI_lt_m, qI_le_m, qI_sub, qI_div, qI_rem, bI_0, bI_1]
    obtain ⟨s1, e2, h1, f1⟩ := M_exp43_lp (sz := sz) (S := S) hl (i := i) (by omega) (kk := fun x3_43 s43 => if x3_43 = 0 then (lp_M_expire_32 (nI l) kk n (nI (i + 1)) s43) else (mm_ld s43 44 0 16 (nI l) fun v94 => if v94 = 0 then (lp_M_expire_32 (nI l) kk n (nI (i + 1)) s43) else (mm_ld s43 51 0 12 (nI i) fun v104 => mm_st s43 51 0 12 (nI i) (v104 + 1) fun s107 => lp_M_expire_32 (nI l) kk n (nI (i + 1)) s107))) 4 FU 0 s (by rw [rng_0]; exact h) (by omega) (by unfold FU; omega)
    have h44' : s1.1 44 0 l = bI e := by rw [(f1 44 (by decide)).1]; exact h44
    have hst := oDrp_step (S := S) (l := l) (e := e) (show i < 12 by omega)
    rw [free4_eq] at hst
    have key : ∀ s0, FrQ s1 s0 → QS s0 sz (mkSto ((fun i' k => if i' = i ∧ 4 * l + 0 ≤ k ∧ k < 4 * l + 4 then false else S.cp i' k)) S.vb S.hp S.nw S.kn S.bt S.held (u1 S.ea i (S.ea i + (if e && decide (c4 (S.cp i) l ≠ 0) then 1 else 0))) S.rf) → ∃ s', lp_M_expire_32 (nI l) kk n (nI (i + 1)) s0 = kk s' ∧ QS s' sz (oDrp S l e i) ∧ FrQ s1 s' := by
      intro s0 f0 h0
      obtain ⟨s2, e3, h2, f2⟩ := ih n (i + 1) s0 _ h0 (by rw [(f0 44 (by decide)).1]; exact h44') (by omega) (by omega)
      refine ⟨s2, e3, ?_, f0.tr f2⟩
      rw [← hst]; exact h2
    have fin : ∃ s', (if bI (decide (c4 (S.cp i) l ≠ 0)) = 0 then (lp_M_expire_32 (nI l) kk n (nI (i + 1)) s1) else (mm_ld s1 44 0 16 (nI l) fun v94 => if v94 = 0 then (lp_M_expire_32 (nI l) kk n (nI (i + 1)) s1) else (mm_ld s1 51 0 12 (nI i) fun v104 => mm_st s1 51 0 12 (nI i) (v104 + 1) fun s107 => lp_M_expire_32 (nI l) kk n (nI (i + 1)) s107))) = kk s' ∧ QS s' sz (oDrp S l e i) ∧ FrQ s1 s' := by
      by_cases hc : c4 (S.cp i) l = 0
      · rw [decide_eq_false (fun h => h hc), if_pos (by decide)]
        have : u1 S.ea i (S.ea i + (if e && decide (c4 (S.cp i) l ≠ 0) then 1 else 0)) = S.ea := u1_same (by rw [decide_eq_false (fun h => h hc), Bool.and_false]; rfl)
        rw [this] at key
        exact key s1 FrQ.rf h1
      · rw [decide_eq_true hc, if_neg (by decide), ld_ok (by omega) (by omega), h44']
        cases he : e with
        | false =>
          rw [if_pos (by decide)]
          rw [he] at key
          have : u1 S.ea i (S.ea i + (if false && decide (c4 (S.cp i) l ≠ 0) then 1 else 0)) = S.ea := u1_same rfl
          rw [this] at key
          exact key s1 FrQ.rf h1
        | true =>
          rw [he] at key
          rw [if_neg (by decide), ld_ok (by omega) (by omega), h1.exl i (by omega), show nI (S.ea i) + 1 = nI (S.ea i + 1) by simp only [qI_lit, qI_add], st_ok (by omega) (by omega)]
          have : (S.ea i + (if true && decide (c4 (S.cp i) l ≠ 0) then 1 else 0)) = S.ea i + 1 := by rw [decide_eq_true hc]; rfl
          rw [this] at key
          exact key _ (FrQ.wI (by omega)) (QS_ea (i := i) (t := S.ea i + 1) h1)
    obtain ⟨s', k1, k2, k3⟩ := fin
    refine ⟨s', ?_, k2, f1.tr k3⟩
    rw [if_neg (by simp (disch := omega) only [qI_lit, qI_m1, qI_add, qI_mul, qI_le, qI_lt, qI_inj, qI_ne_m, m_ne_nI, m_lt_nI, m_le_nI, qI_lt_m, qI_le_m, qI_sub, qI_div, qI_rem, bI_0, bI_1]; omega), e1]
    exact e2.trans k1
theorem drp_expQ {s : Mem} {S : Sto} (h : QS s sz (oDrp S l e 0)) : QS s sz (oExp1 S l e) := by
  refine QS_ce h (cp := fun i k => if k / 4 = l then false else S.cp i k) (ea := fun i => S.ea i + (if e && decide (c4 (S.cp i) l ≠ 0) then 1 else 0)) (fun i k hi _ => ?_) (fun i hi => ?_) (fun i k hk => ?_)
  · show _ = if 0 ≤ i ∧ i < 12 ∧ k / 4 = l then false else S.cp i k
    by_cases c : k / 4 = l
    · rw [if_pos c, if_pos (by omega)]
    · rw [if_neg c, if_neg (by omega)]
  · show _ = S.ea i + (if 0 ≤ i ∧ i < 12 then _ else _)
    rw [if_pos (c := 0 ≤ i ∧ i < 12) (by omega)]
  · by_cases c : k / 4 = l
    · simp only [if_pos c] at hk; cases hk
    · simp only [if_neg c] at hk
      refine h.vcp i k ?_
      show (if 0 ≤ i ∧ i < 12 ∧ k / 4 = l then false else S.cp i k) = true
      rw [if_neg (fun h => c h.2.2)]; exact hk
theorem M_expire {s : Mem} {L : Lts} {S : Sto} (h : QS s sz S) (hL : QL s L) (wl : WL L) (hk : ∀ i l, S.kn i l ≤ 2) (hl : l < L.n) : ∃ s', f_M_expire (nI l) s = mm_rv s' ∧ QS s' sz (oExp1 S l (decide (S.kn (L.gl l) l = 0))) ∧ QL s' (mkLts L.n L.sz L.srt L.org L.gl L.ad L.ps L.sm L.pr (u1 L.ex l (decide (S.kn (L.gl l) l = 0)))) ∧ (∀ F, F ≠ 44 → F ≠ 35 → (F < 46 ∨ 52 < F) → s'.1 F = s.1 F ∧ s'.2 F = s.2 F) := by
  have h16 := wl.n16
  have hg := wl.gl l hl
  have hk2 := hk (L.gl l) l
  have hs1 : QS (mm_wI s 44 0 l (bI (decide (S.kn (L.gl l) l = 0)))) sz S := h.wI (by decide)
  obtain ⟨s', e1, h1, f1⟩ := M_exp32_lp (sz := sz) (l := l) (e := decide (S.kn (L.gl l) l = 0)) (by omega) (kk := fun s32 => mm_rv s32) 12 FU 0 _ S hs1 wI_y (by omega) (by unfold FU; omega)
  refine ⟨s', ?_, drp_expQ h1, ?_, fun F g1 g2 g3 => ⟨(f1 F ⟨g2, g3⟩).1.trans (wI_ne g1), (f1 F ⟨g2, g3⟩).2⟩⟩
  · unfold f_M_expire
    rw [ld_ok (by omega) (by omega), hL.gl l hl, show (16 : Int32) * nI (L.gl l) + nI l = nI (16 * L.gl l + l) by simp only [qI_lit, qI_mul, qI_add], ld_ok (by omega) (by omega), h.kno _ _ (by omega) (by omega), jn_ok]
    refine Eq.trans ?_ e1
    by_cases c : S.kn (L.gl l) l = 0
    · rw [if_neg (by rw [c]; exact fun h => h rfl), decide_eq_true c]
      exact sz_okb (b := true) (k := fun s29 => lp_M_expire_32 (nI l) (fun s32 => mm_rv s32) FU (nI 0) s29) (show l < 16 by omega) (by omega)
    · rw [if_pos (by rw [show (0 : Int32) = nI 0 from rfl, qI_inj (by omega) (by omega)]; exact c), decide_eq_false c]
      exact sz_okb (b := false) (k := fun s29 => lp_M_expire_32 (nI l) (fun s32 => mm_rv s32) FU (nI 0) s29) (show l < 16 by omega) (by omega)
  · have q : ∀ F, F ≠ 35 → (F < 46 ∨ 52 < F) → s'.1 F = (mm_wI s 44 0 l (bI (decide (S.kn (L.gl l) l = 0)))).1 F := fun F g1 g2 => (f1 F ⟨g1, g2⟩).1
    refine ⟨by rw [q 30 (by decide) (by decide)]; exact hL.n, by rw [q 36 (by decide) (by decide)]; exact hL.sz, by rw [q 37 (by decide) (by decide)]; exact hL.srt, by rw [q 38 (by decide) (by decide)]; exact hL.org, by rw [q 39 (by decide) (by decide)]; exact hL.gl, by rw [q 40 (by decide) (by decide)]; exact hL.ad, by rw [q 41 (by decide) (by decide)]; exact hL.ps, by rw [q 42 (by decide) (by decide)]; exact hL.sm, by rw [q 43 (by decide) (by decide)]; exact hL.pr, fun l' hl' => ?_⟩
    rw [q 44 (by decide) (by decide)]
    show _ = bI (u1 L.ex l _ l')
    by_cases c : l' = l
    · rw [c, wI_y, u1_at]
    · rw [wI_n (by omega), u1_ne c]; exact hL.ex l' hl'
end

section
variable {s : Mem} {sz : Nat → Nat} {S : Sto} {i k l : Nat}
theorem S_countOf_lp (h : RS s sz S) (hi : i < 12) (hl : l < 16) {kk : Int32 → Mem → RR} : ∀ (m n p c : Nat), p + m = 4 → m < n → lp_S_countOf_6 i (nI l) kk n (nI c) (nI (4 * l + p)) s = kk (nI (c + cN (fun q => S.cp i (4 * l + (p + q))) m)) s := by
  intro m
  induction m with
  | zero =>
    intro n p c hp hn
    obtain ⟨n, rfl⟩ : ∃ n', n = n' + 1 := ⟨n - 1, by omega⟩
    unfold lp_S_countOf_6
    rw [if_pos (by simp (disch := omega) only [qI_lit, qI_m1, qI_add, qI_mul, qI_le, qI_lt, qI_inj, qI_ne_m, m_ne_nI, m_lt_nI, m_le_nI, qI_lt_m, qI_le_m, qI_sub, qI_div, qI_rem, bI_0, bI_1]; omega)]
    rfl
  | succ m ih =>
    intro n p c hp hn
    obtain ⟨n, rfl⟩ : ∃ n', n = n' + 1 := ⟨n - 1, by omega⟩
    unfold lp_S_countOf_6
    rw [if_neg (by simp (disch := omega) only [qI_lit, qI_m1, qI_add, qI_mul, qI_le, qI_lt, qI_inj, qI_ne_m, m_ne_nI, m_lt_nI, m_le_nI, qI_lt_m, qI_le_m, qI_sub, qI_div, qI_rem, bI_0, bI_1]; omega), S_has h hi (by omega), cI_ok]
    have e1 : nI (4 * l + p) + 1 = nI (4 * l + (p + 1)) := by simp (disch := omega) only [qI_lit, qI_m1, qI_add, qI_mul, qI_le, qI_lt, qI_inj, qI_ne_m, m_ne_nI, m_lt_nI, m_le_nI, qI_lt_m, qI_le_m, qI_sub, qI_div, qI_rem, bI_0, bI_1]; omega
    have e2 : nI c + 1 = nI (c + 1) := by simp (disch := omega) only [qI_lit, qI_m1, qI_add, qI_mul, qI_le, qI_lt, qI_inj, qI_ne_m, m_ne_nI, m_lt_nI, m_le_nI, qI_lt_m, qI_le_m, qI_sub, qI_div, qI_rem, bI_0, bI_1]
    have e3 : ∀ m, cN (fun q => S.cp i (4 * l + (p + q))) (m + 1) = (if S.cp i (4 * l + p) then 1 else 0) + cN (fun q => S.cp i (4 * l + (p + 1 + q))) m := by
      intro m
      induction m with
      | zero => simp [cN]
      | succ m ih => rw [cN, ih]; simp only [cN]; rw [show p + (m + 1) = p + 1 + m by omega]; omega
    rw [e3, e1, e2]
    cases hc : S.cp i (4 * l + p) with
    | false => rw [if_pos (by decide), ih n (p + 1) c (by omega) (by omega)]; simp
    | true => rw [if_neg (by decide), ih n (p + 1) (c + 1) (by omega) (by omega)]; simp only [if_true]; congr 2; omega
def c4 (f : Nat → Bool) (l : Nat) : Nat := cN (fun q => f (4 * l + q)) 4
theorem S_countOf (h : RS s sz S) (hi : i < 12) (hl : l < 16) : f_S_countOf i (nI l) s = mm_ri (nI (c4 (S.cp i) l)) s := by
  unfold f_S_countOf
  show lp_S_countOf_6 i (nI l) _ FU 0 (nI l * 4) s = _
  have e : nI l * 4 = nI (4 * l + 0) := by simp (disch := omega) only [qI_lit, qI_m1, qI_add, qI_mul, qI_le, qI_lt, qI_inj, qI_ne_m, m_ne_nI, m_lt_nI, m_le_nI, qI_lt_m, qI_le_m, qI_sub, qI_div, qI_rem, bI_0, bI_1]; omega
  rw [e, show (0 : Int32) = nI 0 from rfl, S_countOf_lp h hi hl 4 FU 0 0 rfl (by decide)]
  simp [c4]
def oFree4 (S : Sto) (i l : Nat) : Sto := (mkSto (fun i' k' => if i' = i ∧ k' / 4 = l then false else S.cp i' k') S.vb S.hp S.nw S.kn S.bt S.held S.ea S.rf)
theorem S_freeAllOf_lp (hi : i < 12) (hl : l < 16) {kk : Mem → RR} : ∀ (m n p : Nat) (s : Mem) (S : Sto), RS s sz S → p + m = 4 → m < n → ∃ s', lp_S_freeAllOf_4 i (nI l) kk n (nI (4 * l + p)) s = kk s' ∧ RS s' sz (mkSto (fun i' k' => if i' = i ∧ 4 * l + p ≤ k' ∧ k' < 4 * l + 4 then false else S.cp i' k') S.vb S.hp S.nw S.kn S.bt S.held S.ea S.rf) ∧ FrS s s' := by
  intro m
  induction m with
  | zero =>
    intro n p s S h hp hn
    obtain ⟨n, rfl⟩ : ∃ n', n = n' + 1 := ⟨n - 1, by omega⟩
    unfold lp_S_freeAllOf_4
    rw [if_pos (by simp (disch := omega) only [qI_lit, qI_m1, qI_add, qI_mul, qI_le, qI_lt, qI_inj, qI_ne_m, m_ne_nI, m_lt_nI, m_le_nI, qI_lt_m, qI_le_m, qI_sub, qI_div, qI_rem, bI_0, bI_1]; omega)]
    refine ⟨s, rfl, ?_, FrS.rf⟩
    have : (fun i' k' => if i' = i ∧ 4 * l + p ≤ k' ∧ k' < 4 * l + 4 then false else S.cp i' k') = S.cp := by
      funext a b; rw [if_neg (by omega)]
    rw [this]; exact h
  | succ m ih =>
    intro n p s S h hp hn
    obtain ⟨n, rfl⟩ : ∃ n', n = n' + 1 := ⟨n - 1, by omega⟩
    unfold lp_S_freeAllOf_4
    obtain ⟨s1, e1, h1, f1⟩ := S_free h hi (show 4 * l + p < 64 by omega)
    have e2 : nI (4 * l + p) + 1 = nI (4 * l + (p + 1)) := by simp (disch := omega) only [qI_lit, qI_m1, qI_add, qI_mul, qI_le, qI_lt, qI_inj, qI_ne_m, m_ne_nI, m_lt_nI, m_le_nI, qI_lt_m, qI_le_m, qI_sub, qI_div, qI_rem, bI_0, bI_1]; omega
    rw [if_neg (by simp (disch := omega) only [qI_lit, qI_m1, qI_add, qI_mul, qI_le, qI_lt, qI_inj, qI_ne_m, m_ne_nI, m_lt_nI, m_le_nI, qI_lt_m, qI_le_m, qI_sub, qI_div, qI_rem, bI_0, bI_1]; omega), e1, cV_ok, e2]
    obtain ⟨s2, e3, h2, f2⟩ := ih n (p + 1) s1 _ h1 (by omega) (by omega)
    refine ⟨s2, e3, ?_, f1.tr f2⟩
    have : (fun i' k' => if i' = i ∧ 4 * l + p ≤ k' ∧ k' < 4 * l + 4 then false else S.cp i' k') = (fun i' k' => if i' = i ∧ 4 * l + (p + 1) ≤ k' ∧ k' < 4 * l + 4 then false else u2 S.cp i (4 * l + p) false i' k') := by
      funext a b; unfold u2
      by_cases c1 : a = i
      · by_cases c2 : b = 4 * l + p
        · rw [if_pos (by omega), if_neg (by omega), if_pos (by omega)]
        · by_cases c3 : 4 * l + (p + 1) ≤ b ∧ b < 4 * l + 4
          · rw [if_pos (by omega), if_pos (by omega)]
          · rw [if_neg (by omega), if_neg (by omega), if_neg (by omega)]
      · rw [if_neg (by omega), if_neg (by omega), if_neg (by omega)]
    rw [this]; exact h2
theorem S_freeAllOf (h : RS s sz S) (hi : i < 12) (hl : l < 16) : ∃ s', f_S_freeAllOf i (nI l) s = mm_rv s' ∧ RS s' sz (oFree4 S i l) ∧ FrS s s' := by
  unfold f_S_freeAllOf
  show ∃ s', lp_S_freeAllOf_4 i (nI l) _ FU (nI l * 4) s = _ ∧ _
  have e : nI l * 4 = nI (4 * l + 0) := by simp (disch := omega) only [qI_lit, qI_m1, qI_add, qI_mul, qI_le, qI_lt, qI_inj, qI_ne_m, m_ne_nI, m_lt_nI, m_le_nI, qI_lt_m, qI_le_m, qI_sub, qI_div, qI_rem, bI_0, bI_1]; omega
  rw [e]
  obtain ⟨s', e1, h1, f1⟩ := S_freeAllOf_lp (sz := sz) (kk := fun s4 => mm_rv s4) hi hl 4 FU 0 s S h rfl (by decide)
  refine ⟨s', e1, ?_, f1⟩
  have : (fun i' k' => if i' = i ∧ k' / 4 = l then false else S.cp i' k') = (fun i' k' => if i' = i ∧ 4 * l + 0 ≤ k' ∧ k' < 4 * l + 4 then false else S.cp i' k') := by
    funext a b
    by_cases c1 : a = i ∧ b / 4 = l
    · rw [if_pos c1, if_pos (by omega)]
    · rw [if_neg c1, if_neg (by omega)]
  unfold oFree4; rw [this]; exact h1
def oTake (S : Sto) (i k h : Nat) (b : Nat → Nat) : Sto := (mkSto (u2 S.cp i k true) (u2 S.vb i k true) (u2 S.hp i k h) (u2 S.nw i k h) S.kn (fun i' l' j' => if i' = i ∧ 4 * l' + j' / 8 = k then b j' else S.bt i' l' j') S.held S.ea S.rf)
theorem S_take (h : RS s sz S) (hi : i < 12) (hk : k < 64) {x : Int64} {t : Nat} {b : Nat → Nat} (hn : S.cp i k = false) (ht : t < 1000000) (hb : ∀ l j, l < 16 → j < sz l → 4 * l + j / 8 = k → bytI x (j % 8) = nI (b j)) :
    ∃ s', f_S_take i (nI k) x (nI t) s = mm_rv s' ∧ RS s' sz (oTake S i k t b) ∧ FrS s s' := by
  unfold f_S_take
  rw [st_ok hk (by omega), st_ok hk (by omega), stj_ok hk (by omega)]
  refine ⟨_, rfl, ?_, ((FrS.wI (by omega)).tr (FrS.wI (by omega))).tr ((FrS.wJ (by omega)).tr (FrS.wI (by omega)))⟩
  have hcl := cN_le (S.cp i) 64
  refine ⟨fun i' hi' => (wI_k (by decide)).trans (h.cap i' hi'), fun i' hi' => ?_, fun i' hi' => (wI_k (by decide)).trans (h.hel i' hi'), fun i' hi' => (wI_k (by decide)).trans (h.exl i' hi'), fun i' hi' => (wI_k (by decide)).trans (h.ref i' hi'), fun i' k' hi' hk' => ?_, fun i' k' hi' hk' => ?_, h.kno, fun i' l' j' hi' hl' hj' hc' => ?_, fun i' k' => ?_, fun i' k' => ?_, fun i' k' hc' => ?_⟩
  · rw [wI_eq, wJ_1, wI_ne (by decide), wI_ne (by decide)]
    by_cases e : i' = i
    · subst e
      rw [u2_at, h.cop _ hi]
      show _ = nI (cN (u2 S.cp i' k true i') 64)
      rw [u2_row, cN_up hk hn]; simp (disch := omega) only [qI_lit, qI_m1, qI_add, qI_mul, qI_le, qI_lt, qI_inj, qI_ne_m, m_ne_nI, m_lt_nI, m_le_nI, qI_lt_m, qI_le_m, qI_sub, qI_div, qI_rem, bI_0, bI_1]
    · rw [u2_ne (by omega), h.cop _ hi']
      show _ = nI (cN (u2 S.cp i k true i') 64)
      rw [u2_other _ _ _ e]
  · rw [wI_ne (by decide), wJ_1, wI_ne (by decide), wI_eq]
    show _ = if u2 S.cp i k true i' k' then nI (u2 S.hp i k t i' k') else _
    by_cases e : i' = i ∧ k' = k
    · rw [e.1, e.2, u2_at, u2_at, u2_at]; rfl
    · rw [u2_ne e, u2_ne e, u2_ne e]; exact h.hop _ _ hi' hk'
  · rw [wI_ne (by decide), wJ_1, wI_eq, wI_ne (by decide)]
    show _ = nI (u2 S.nw i k t i' k')
    by_cases e : i' = i ∧ k' = k
    · rw [e.1, e.2, u2_at, u2_at]
    · rw [u2_ne e, u2_ne e]; exact h.new _ _ hi' hk'
  · rw [wI_2, wJ_eq]
    show _ = nI (if i' = i ∧ 4 * l' + j' / 8 = k then b j' else S.bt i' l' j')
    by_cases e : i' = i ∧ 4 * l' + j' / 8 = k
    · rw [if_pos e, e.1, e.2, u2_at]; exact hb l' j' hl' hj' e.2
    · rw [if_neg e, u2_ne e]
      have h9 : u2 S.vb i k true i' (4 * l' + j' / 8) = true := hc'
      rw [u2_ne e] at h9
      exact h.byt _ _ _ hi' hl' hj' h9
  · show u2 S.hp i k t i' k' < _
    by_cases e : i' = i ∧ k' = k
    · rw [e.1, e.2, u2_at]; exact ht
    · rw [u2_ne e]; exact h.hlt _ _
  · show u2 S.nw i k t i' k' < _
    by_cases e : i' = i ∧ k' = k
    · rw [e.1, e.2, u2_at]; exact ht
    · rw [u2_ne e]; exact h.nlt _ _
  · show u2 S.vb i k true i' k' = true
    have h9 : u2 S.cp i k true i' k' = true := hc'
    by_cases e : i' = i ∧ k' = k
    · rw [e.1, e.2, u2_at]
    · rw [u2_ne e] at h9 ⊢; exact h.vcp _ _ h9
theorem RS_nw (h : RS s sz S) {t : Nat} (ht : t < 1000000) : RS (mm_wI s 9 i k (nI t)) sz (mkSto S.cp S.vb S.hp (u2 S.nw i k t) S.kn S.bt S.held S.ea S.rf) := by
  refine ⟨h.cap, h.cop, h.hel, h.exl, h.ref, h.hop, fun i' k' hi' hk' => ?_, h.kno, h.byt, h.hlt, fun i' k' => ?_, h.vcp⟩
  · rw [wI_eq]
    show _ = nI (u2 S.nw i k t i' k')
    by_cases e : i' = i ∧ k' = k
    · rw [e.1, e.2, u2_at, u2_at]
    · rw [u2_ne e, u2_ne e]; exact h.new _ _ hi' hk'
  · show u2 S.nw i k t i' k' < _
    by_cases e : i' = i ∧ k' = k
    · rw [e.1, e.2, u2_at]; exact ht
    · rw [u2_ne e]; exact h.nlt _ _
theorem RS_kn (h : RS s sz S) {t : Nat} : RS (mm_wI s 11 i k (nI t)) sz (mkSto S.cp S.vb S.hp S.nw (u2 S.kn i k t) S.bt S.held S.ea S.rf) := by
  refine ⟨h.cap, h.cop, h.hel, h.exl, h.ref, h.hop, h.new, fun i' k' hi' hk' => ?_, h.byt, h.hlt, h.nlt, h.vcp⟩
  rw [wI_eq]
  show _ = nI (u2 S.kn i k t i' k')
  by_cases e : i' = i ∧ k' = k
  · rw [e.1, e.2, u2_at, u2_at]
  · rw [u2_ne e, u2_ne e]; exact h.kno _ _ hi' hk'
def oHear (S : Sto) (i k t : Nat) : Sto := (mkSto (u2 S.cp i k (S.cp i k && decide (t ≤ S.hp i k))) S.vb S.hp (u2 S.nw i k t) S.kn S.bt S.held S.ea S.rf)
theorem S_learnHops (h : RS s sz S) (hi : i < 12) (hk : k < 64) {t : Nat} (ht : t < 1000000) : ∃ s', f_S_learnHops i (nI k) (nI t) s = mm_rv s' ∧ RS s' sz (oHear S i k t) ∧ FrS s s' := by
  unfold f_S_learnHops
  have h1 := RS_nw (i := i) (k := k) h ht
  have hh := h.hlt i k
  rw [st_ok hk (by omega), ld_ok hk (by omega), h1.hop i k hi hk]
  show ∃ s', (if nI t ≤ (if S.cp i k then nI (S.hp i k) else mone) then _ else _) = _ ∧ _
  cases hc : S.cp i k with
  | false =>
    obtain ⟨s2, e2, h2, f2⟩ := S_free h1 hi hk
    rw [if_neg (by simp only [Bool.false_eq_true, if_false]; simp (disch := omega) only [qI_lit, qI_m1, qI_add, qI_mul, qI_le, qI_lt, qI_inj, qI_ne_m, m_ne_nI, m_lt_nI, m_le_nI, qI_lt_m, qI_le_m, qI_sub, qI_div, qI_rem, bI_0, bI_1]; exact id), e2, cV_ok]
    refine ⟨s2, rfl, ?_, (FrS.wI (by omega)).tr f2⟩
    have : oHear S i k t = oFree (mkSto S.cp S.vb S.hp (u2 S.nw i k t) S.kn S.bt S.held S.ea S.rf) i k := by unfold oHear oFree; rw [hc]; rfl
    rw [this]; exact h2
  | true =>
    simp only [if_true]
    by_cases hle : t ≤ S.hp i k
    · rw [if_pos (by simp (disch := omega) only [qI_lit, qI_m1, qI_add, qI_mul, qI_le, qI_lt, qI_inj, qI_ne_m, m_ne_nI, m_lt_nI, m_le_nI, qI_lt_m, qI_le_m, qI_sub, qI_div, qI_rem, bI_0, bI_1]; exact hle)]
      refine ⟨_, rfl, ?_, FrS.wI (by omega)⟩
      have : oHear S i k t = (mkSto S.cp S.vb S.hp (u2 S.nw i k t) S.kn S.bt S.held S.ea S.rf) := by unfold oHear; rw [hc, u2_same (by rw [hc]; simp [hle])]
      rw [this]; exact h1
    · obtain ⟨s2, e2, h2, f2⟩ := S_free h1 hi hk
      rw [if_neg (by simp (disch := omega) only [qI_lit, qI_m1, qI_add, qI_mul, qI_le, qI_lt, qI_inj, qI_ne_m, m_ne_nI, m_lt_nI, m_le_nI, qI_lt_m, qI_le_m, qI_sub, qI_div, qI_rem, bI_0, bI_1]; exact hle), e2, cV_ok]
      refine ⟨s2, rfl, ?_, (FrS.wI (by omega)).tr f2⟩
      have : oHear S i k t = oFree (mkSto S.cp S.vb S.hp (u2 S.nw i k t) S.kn S.bt S.held S.ea S.rf) i k := by unfold oHear oFree; rw [hc]; simp [hle]
      rw [this]; exact h2
def oLearn (S : Sto) (i l w : Nat) : Sto := if w = 0 then (mkSto S.cp S.vb S.hp S.nw (u2 S.kn i l w) S.bt S.held S.ea S.rf) else oFree4 (mkSto S.cp S.vb S.hp S.nw (u2 S.kn i l w) S.bt S.held S.ea S.rf) i l
theorem S_learnOf (h : RS s sz S) (hi : i < 12) (hl : l < 16) {w : Nat} (hw : w < 100) : ∃ s', f_S_learnOf i (nI l) (nI w) s = mm_rv s' ∧ RS s' sz (oLearn S i l w) ∧ FrS s s' := by
  unfold f_S_learnOf
  have h1 := RS_kn (i := i) (k := l) (t := w) h
  rw [st_ok hl (by omega)]
  unfold oLearn
  by_cases e : w = 0
  · rw [if_pos (by simp (disch := omega) only [qI_lit, qI_m1, qI_add, qI_mul, qI_le, qI_lt, qI_inj, qI_ne_m, m_ne_nI, m_lt_nI, m_le_nI, qI_lt_m, qI_le_m, qI_sub, qI_div, qI_rem, bI_0, bI_1]; exact e), if_pos e]
    exact ⟨_, rfl, h1, FrS.wI (by omega)⟩
  · obtain ⟨s2, e2, h2, f2⟩ := S_freeAllOf h1 hi hl
    rw [if_neg (by simp (disch := omega) only [qI_lit, qI_m1, qI_add, qI_mul, qI_le, qI_lt, qI_inj, qI_ne_m, m_ne_nI, m_lt_nI, m_le_nI, qI_lt_m, qI_le_m, qI_sub, qI_div, qI_rem, bI_0, bI_1]; exact e), if_neg e, e2, cV_ok]
    exact ⟨s2, rfl, h2, (FrS.wI (by omega)).tr f2⟩
end

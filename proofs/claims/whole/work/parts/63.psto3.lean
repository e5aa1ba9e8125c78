section
variable {s : Mem} {sz : Nat → Nat} {S : Sto} {i k l : Nat}
def oUn (S : Sto) (i k t : Nat) : Sto := (mkSto (u2 S.cp i k true) S.vb (u2 S.hp i k t) (u2 S.nw i k t) S.kn S.bt S.held S.ea S.rf)
theorem S_unlearn (h : RS s sz S) (hi : i < 12) (hk : k < 64) {t : Nat} (hn : S.cp i k = false) (hv : S.vb i k = true) (ht : S.nw i k = t + 1) :
    ∃ s', f_S_unlearn i (nI k) s = mm_rv s' ∧ RS s' sz (oUn S i k t) ∧ FrS s s' := by
  unfold f_S_unlearn
  have hlt := h.nlt i k
  rw [ld_ok hk (by omega), st_ok hk (by omega), ld_ok hk (by omega), st_ok hk (by omega), h.new i k hi hk, ht]
  have e1 : nI (t + 1) - 1 = nI t := by rw [show (1 : Int32) = nI 1 from rfl, qI_sub (by omega)]; rfl
  rw [e1, wI_eq, u2_at]
  refine ⟨_, rfl, ?_, ((FrS.wI (by omega)).tr (FrS.wI (by omega))).tr (FrS.wI (by omega))⟩
  have hcl := cN_le (S.cp i) 64
  refine ⟨fun i' hi' => (wI_k (by decide)).trans (h.cap i' hi'), fun i' hi' => ?_, fun i' hi' => (wI_k (by decide)).trans (h.hel i' hi'), fun i' hi' => (wI_k (by decide)).trans (h.exl i' hi'), fun i' hi' => (wI_k (by decide)).trans (h.ref i' hi'), fun i' k' hi' hk' => ?_, fun i' k' hi' hk' => ?_, h.kno, h.byt, fun i' k' => ?_, fun i' k' => ?_, fun i' k' hc' => ?_⟩
  · rw [wI_eq, wI_ne (by decide), wI_ne (by decide)]
    by_cases e : i' = i
    · subst e
      rw [u2_at, h.cop _ hi]
      show _ = nI (cN (u2 S.cp i' k true i') 64)
      rw [u2_row, cN_up hk hn]; simp (disch := omega) only [qI_lit, qI_m1, qI_add, qI_mul, qI_le, qI_lt, qI_inj, qI_ne_m, m_ne_nI, m_lt_nI, m_le_nI, qI_lt_m, qI_le_m, qI_sub, qI_div, qI_rem, bI_0, bI_1]
    · rw [u2_ne (by omega), h.cop _ hi']
      show _ = nI (cN (u2 S.cp i k true i') 64)
      rw [u2_other _ _ _ e]
  · rw [wI_ne (by decide), wI_eq, wI_ne (by decide)]
    show _ = if u2 S.cp i k true i' k' then nI (u2 S.hp i k t i' k') else _
    by_cases e : i' = i ∧ k' = k
    · rw [e.1, e.2, u2_at, u2_at, u2_at]; rfl
    · rw [u2_ne e, u2_ne e, u2_ne e]; exact h.hop _ _ hi' hk'
  · rw [wI_ne (by decide), wI_ne (by decide), wI_eq]
    show _ = nI (u2 S.nw i k t i' k')
    by_cases e : i' = i ∧ k' = k
    · rw [e.1, e.2, u2_at, u2_at]
    · rw [u2_ne e, u2_ne e]; exact h.new _ _ hi' hk'
  · show u2 S.hp i k t i' k' < _
    by_cases e : i' = i ∧ k' = k
    · rw [e.1, e.2, u2_at]; omega
    · rw [u2_ne e]; exact h.hlt _ _
  · show u2 S.nw i k t i' k' < _
    by_cases e : i' = i ∧ k' = k
    · rw [e.1, e.2, u2_at]; omega
    · rw [u2_ne e]; exact h.nlt _ _
  · have h9 : u2 S.cp i k true i' k' = true := hc'
    by_cases e : i' = i ∧ k' = k
    · rw [e.1, e.2]; exact hv
    · rw [u2_ne e] at h9; exact h.vcp _ _ h9
def oForget (S : Sto) (i : Nat) : Sto := (mkSto S.cp S.vb S.hp (fun i' k' => if i' = i ∧ S.cp i' k' = false then 0 else S.nw i' k') S.kn S.bt S.held S.ea S.rf)
theorem S_forget_lp (hi : i < 12) {kk : Mem → RR} : ∀ (m n j : Nat) (s : Mem) (S : Sto), RS s sz S → j + m = 64 → m < n → ∃ s', lp_S_forgetPieces_2 i kk n (nI j) s = kk s' ∧ RS s' sz (mkSto S.cp S.vb S.hp (fun i' k' => if i' = i ∧ S.cp i' k' = false ∧ j ≤ k' ∧ k' < 64 then 0 else S.nw i' k') S.kn S.bt S.held S.ea S.rf) ∧ FrS s s' := by
  intro m
  induction m with
  | zero =>
    intro n j s S h hp hn
    obtain ⟨n, rfl⟩ : ∃ n', n = n' + 1 := ⟨n - 1, by omega⟩
    unfold lp_S_forgetPieces_2
    rw [if_pos (by simp (disch := omega) only [qI_lit, qI_m1, qI_add, qI_mul, qI_le, qI_lt, qI_inj, qI_ne_m, m_ne_nI, m_lt_nI, m_le_nI, qI_lt_m, qI_le_m, qI_sub, qI_div, qI_rem, bI_0, bI_1]; omega)]
    refine ⟨s, rfl, ?_, FrS.rf⟩
    have : (fun i' k' => if i' = i ∧ S.cp i' k' = false ∧ j ≤ k' ∧ k' < 64 then 0 else S.nw i' k') = S.nw := by
      funext a b; rw [if_neg (by omega)]
    rw [this]; exact h
  | succ m ih =>
    intro n j s S h hp hn
    obtain ⟨n, rfl⟩ : ∃ n', n = n' + 1 := ⟨n - 1, by omega⟩
    unfold lp_S_forgetPieces_2
    have e2 : nI j + 1 = nI (j + 1) := by simp (disch := omega) only [qI_lit, qI_m1, qI_add, qI_mul, qI_le, qI_lt, qI_inj, qI_ne_m, m_ne_nI, m_lt_nI, m_le_nI, qI_lt_m, qI_le_m, qI_sub, qI_div, qI_rem, bI_0, bI_1]
    rw [if_neg (by simp (disch := omega) only [qI_lit, qI_m1, qI_add, qI_mul, qI_le, qI_lt, qI_inj, qI_ne_m, m_ne_nI, m_lt_nI, m_le_nI, qI_lt_m, qI_le_m, qI_sub, qI_div, qI_rem, bI_0, bI_1]; omega), S_has h hi (by omega), cI_ok, e2]
    cases hc : S.cp i j with
    | true =>
      rw [if_pos (by decide)]
      obtain ⟨s2, e3, h2, f2⟩ := ih n (j + 1) s S h (by omega) (by omega)
      refine ⟨s2, e3, ?_, f2⟩
      have : (fun i' k' => if i' = i ∧ S.cp i' k' = false ∧ j ≤ k' ∧ k' < 64 then 0 else S.nw i' k') = (fun i' k' => if i' = i ∧ S.cp i' k' = false ∧ j + 1 ≤ k' ∧ k' < 64 then 0 else S.nw i' k') := by
        funext a b
        by_cases c1 : a = i ∧ b = j
        · rw [c1.1, c1.2, hc]; simp
        · by_cases c2 : a = i ∧ S.cp a b = false ∧ j + 1 ≤ b ∧ b < 64
          · rw [if_pos c2, if_pos ⟨c2.1, c2.2.1, by omega, by omega⟩]
          · rw [if_neg c2, if_neg (fun h9 => c2 ⟨h9.1, h9.2.1, by omega, by omega⟩)]
      rw [this]; exact h2
    | false =>
      rw [if_neg (by decide), st_ok (show j < 64 by omega) (by omega)]
      obtain ⟨s2, e3, h2, f2⟩ := ih n (j + 1) _ _ (RS_nw (i := i) (k := j) (t := 0) h (by omega)) (by omega) (by omega)
      refine ⟨s2, e3, ?_, (FrS.wI (by omega)).tr f2⟩
      have : (fun i' k' => if i' = i ∧ S.cp i' k' = false ∧ j ≤ k' ∧ k' < 64 then 0 else S.nw i' k') = (fun i' k' => if i' = i ∧ S.cp i' k' = false ∧ j + 1 ≤ k' ∧ k' < 64 then 0 else u2 S.nw i j 0 i' k') := by
        funext a b
        by_cases c1 : a = i ∧ b = j
        · rw [c1.1, c1.2, hc, u2_at]; simp
          intro h9; omega
        · rw [u2_ne c1]
          by_cases c2 : a = i ∧ S.cp a b = false ∧ j + 1 ≤ b ∧ b < 64
          · rw [if_pos c2, if_pos ⟨c2.1, c2.2.1, by omega, by omega⟩]
          · rw [if_neg c2, if_neg (fun h9 => c2 ⟨h9.1, h9.2.1, by omega, by omega⟩)]
      rw [this]; exact h2
theorem RS_cut (h : RS s sz S) {nw : Nat → Nat → Nat} (e : ∀ i k, i < 12 → k < 64 → nw i k = S.nw i k) (hb : ∀ i k, nw i k < 1000000) : RS s sz (mkSto S.cp S.vb S.hp (nw) S.kn S.bt S.held S.ea S.rf) :=
  ⟨h.cap, h.cop, h.hel, h.exl, h.ref, h.hop, fun i k hi hk => (h.new i k hi hk).trans (congrArg nI (e i k hi hk).symm), h.kno, h.byt, h.hlt, hb, h.vcp⟩
theorem S_forget (h : RS s sz S) (hi : i < 12) : ∃ s', f_S_forgetPieces i s = mm_rv s' ∧ RS s' sz (oForget S i) ∧ FrS s s' := by
  unfold f_S_forgetPieces
  obtain ⟨s', e1, h1, f1⟩ := S_forget_lp (sz := sz) (kk := fun s2 => mm_rv s2) hi 64 FU 0 s S h rfl (by decide)
  refine ⟨s', e1, ?_, f1⟩
  refine RS_cut h1 (fun a b ha hb => ?_) (fun a b => ?_)
  · show (if _ then _ else _) = (if _ then _ else _)
    by_cases c : a = i ∧ S.cp a b = false
    · rw [if_pos c, if_pos ⟨c.1, c.2, by omega, hb⟩]
    · rw [if_neg c, if_neg (fun h9 => c ⟨h9.1, h9.2.1⟩)]
  · split
    · omega
    · exact h.nlt _ _
end

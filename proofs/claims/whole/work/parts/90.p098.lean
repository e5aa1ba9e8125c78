-- post: the pieces laid into the store
def oPost (S : Sto) (i l p : Nat) (b : Nat → Nat) : Sto := (mkSto (fun i' k => if i' = i ∧ 4 * l ≤ k ∧ k < 4 * l + p then true else S.cp i' k) (fun i' k => if i' = i ∧ 4 * l ≤ k ∧ k < 4 * l + p then true else S.vb i' k) (fun i' k => if i' = i ∧ 4 * l ≤ k ∧ k < 4 * l + p then 0 else S.hp i' k) (fun i' k => if i' = i ∧ 4 * l ≤ k ∧ k < 4 * l + p then 0 else S.nw i' k) S.kn (fun i' l' j => if i' = i ∧ l' = l ∧ j / 8 < p then b j else S.bt i' l' j) S.held S.ea S.rf)
theorem rng_up {α : Type} {f : Nat → Nat → α} {i l p : Nat} {v : α} : (fun i' k => if i' = i ∧ 4 * l ≤ k ∧ k < 4 * l + (p + 1) then v else f i' k) = u2 (fun i' k => if i' = i ∧ 4 * l ≤ k ∧ k < 4 * l + p then v else f i' k) i (4 * l + p) v := by
  funext a b; unfold u2
  by_cases e : a = i ∧ b = 4 * l + p
  · rw [if_pos e, if_pos (by omega)]
  · rw [if_neg e]
    show _ = if a = i ∧ 4 * l ≤ b ∧ b < 4 * l + p then v else f a b
    by_cases e2 : a = i ∧ 4 * l ≤ b ∧ b < 4 * l + p
    · rw [if_pos e2, if_pos (by omega)]
    · rw [if_neg e2, if_neg (by omega)]
theorem rng_0 {α : Type} {f : Nat → Nat → α} {i l : Nat} {v : α} : (fun i' k => if i' = i ∧ 4 * l ≤ k ∧ k < 4 * l + 0 then v else f i' k) = f := by
  funext a b; rw [if_neg (by omega)]
theorem RS_bt {s : Mem} {sz : Nat → Nat} {S : Sto} (h : RS s sz S) {bt : Nat → Nat → Nat → Nat} (e : ∀ i l j, i < 12 → l < 16 → j < sz l → bt i l j = S.bt i l j) : RS s sz (mkSto S.cp S.vb S.hp S.nw S.kn (bt) S.held S.ea S.rf) :=
  ⟨h.cap, h.cop, h.hel, h.exl, h.ref, h.hop, h.new, h.kno, fun i l j h1 h2 h3 h4 => (h.byt i l j h1 h2 h3 h4).trans (congrArg nI (e i l j h1 h2 h3).symm), h.hlt, h.nlt, h.vcp⟩
theorem RS_sz {s : Mem} {sz : Nat → Nat} {S : Sto} (h : RS s sz S) {l m : Nat} (hm : m ≤ 32) (hv : ∀ i k, S.vb i k = true → k / 4 ≠ l) : RS s (u1 sz l m) S := by
  refine ⟨h.cap, h.cop, h.hel, h.exl, h.ref, h.hop, h.new, h.kno, fun i l' j h1 h2 h3 h4 => ?_, h.hlt, h.nlt, h.vcp⟩
  by_cases e : l' = l
  · subst e; rw [u1_at] at h3; exact absurd (show (4 * l' + j / 8) / 4 = l' by omega) (hv _ _ h4)
  · rw [u1_ne e] at h3; exact h.byt i l' j h1 h2 h3 h4
theorem QS_sz {s : Mem} {sz : Nat → Nat} {S : Sto} (h : QS s sz S) {l m : Nat} (hm : m ≤ 32) (hv : ∀ i k, S.vb i k = true → k / 4 ≠ l) : QS s (u1 sz l m) S := by
  refine ⟨h.hel, h.cop, h.hop, h.new, fun i l' j h1 h2 h3 h4 => ?_, h.kno, h.exl, h.ref, h.hlt, h.nlt, h.vcp, fun l' => ?_⟩
  · by_cases e : l' = l
    · subst e; rw [u1_at] at h3; exact absurd (show (4 * l' + j / 8) / 4 = l' by omega) (hv _ _ h4)
    · rw [u1_ne e] at h3; exact h.byt i l' j h1 h2 h3 h4
  · by_cases e : l' = l
    · rw [e, u1_at]; exact hm
    · rw [u1_ne e]; exact h.szl l'
section
variable {sz : Nat → Nat} {S : Sto} {i l : Nat}
theorem X_hand_lp (hi : i < 12) (hl : l < 16) (hs : ∀ l, sz l ≤ 32) {b : Nat → Nat} {N : Nat} (hN : N ≤ 4) (hno : ∀ k, k / 4 = l → S.cp i k = false) {kk : Mem → RR} : ∀ (m n p : Nat) (s : Mem), p + m = N → m < n → RS s sz (oPost S i l p b) → (∀ j, j < 32 → bytI (s.2 21 0 (j / 8)) (j % 8) = nI (b j)) →
    ∃ s', lp_X_handOverText_11 i (nI l) (nI N) kk n (nI p) s = kk s' ∧ RS s' sz (oPost S i l N b) ∧ FrS s s' := by
  intro m
  induction m with
  | zero =>
    intro n p s hp hn h hb
    obtain ⟨n, rfl⟩ : ∃ n', n = n' + 1 := ⟨n - 1, by omega⟩
    unfold lp_X_handOverText_11
    rw [if_pos (by simp (disch := omega) only [qI_lit, qI_m1, qI_add, qI_mul, qI_le, qI_lt, qI_inj, qI_ne_m, m_ne_nI, m_lt_nI, m_le_nI, qI_lt_m, qI_le_m, qI_sub, qI_div, qI_rem, bI_0, bI_1]; omega)]
    rw [show p = N by omega] at h
    exact ⟨s, rfl, h, FrS.rf⟩
  | succ m ih =>
    intro n p s hp hn h hb
    obtain ⟨n, rfl⟩ : ∃ n', n = n' + 1 := ⟨n - 1, by omega⟩
    unfold lp_X_handOverText_11
    have e1 : nI p + 1 = nI (p + 1) := by simp (disch := omega) only [qI_lit, qI_m1, qI_add, qI_mul, qI_le, qI_lt, qI_inj, qI_ne_m, m_ne_nI, m_lt_nI, m_le_nI, qI_lt_m, qI_le_m, qI_sub, qI_div, qI_rem, bI_0, bI_1]
    have hcp : (oPost S i l p b).cp i (4 * l + p) = false := by
      show (if _ then _ else _) = _
      rw [if_neg (by omega)]; exact hno _ (by omega)
    obtain ⟨s1, e2, h1, f1⟩ := S_take (x := s.2 21 0 p) (t := 0) (b := b) h hi (show 4 * l + p < 64 by omega) hcp (by decide) (fun l' j hl' hj hk => by
      have := hs l'
      have e3 : j / 8 = p := by omega
      have := hb j (by omega)
      rw [e3] at this; exact this)
    rw [if_neg (by simp (disch := omega) only [qI_lit, qI_m1, qI_add, qI_mul, qI_le, qI_lt, qI_inj, qI_ne_m, m_ne_nI, m_lt_nI, m_le_nI, qI_lt_m, qI_le_m, qI_sub, qI_div, qI_rem, bI_0, bI_1]; omega), ldj_ok (by omega) (by omega), show nI l * 4 + nI p = nI (4 * l + p) by simp only [qI_lit, qI_mul, qI_add]; congr 1; omega, show (0 : Int32) = nI 0 from rfl, e2, cV_ok, e1]
    have h2 : RS s1 sz (oPost S i l (p + 1) b) := by
      have := RS_bt h1 (bt := fun i' l' j => if i' = i ∧ l' = l ∧ j / 8 < p + 1 then b j else S.bt i' l' j) (fun i' l' j g1 g2 g3 => by
        show _ = if i' = i ∧ 4 * l' + j / 8 = 4 * l + p then b j else if i' = i ∧ l' = l ∧ j / 8 < p then b j else S.bt i' l' j
        have := hs l'
        by_cases c1 : i' = i ∧ 4 * l' + j / 8 = 4 * l + p
        · rw [if_pos c1, if_pos (by omega)]
        · rw [if_neg c1]
          by_cases c2 : i' = i ∧ l' = l ∧ j / 8 < p
          · rw [if_pos c2, if_pos (by omega)]
          · rw [if_neg c2, if_neg (by omega)])
      unfold oPost
      rw [rng_up, rng_up, rng_up, rng_up]
      exact this
    obtain ⟨s2, e4, h3, f2⟩ := ih n (p + 1) s1 (by omega) (by omega) h2 (by rw [(f1 21 (by omega)).2]; exact hb)
    exact ⟨s2, e4, h3, f1.tr f2⟩
theorem oPost_0 {b : Nat → Nat} : oPost S i l 0 b = S := by
  unfold oPost
  rw [rng_0, rng_0, rng_0, rng_0]
  have : (fun i' l' j => if i' = i ∧ l' = l ∧ j / 8 < 0 then b j else S.bt i' l' j) = S.bt := by funext a b c; rw [if_neg (by omega)]
  rw [this]
theorem X_hand {s : Mem} (h : RS s sz S) (hi : i < 12) (hl : l < 16) (hs : ∀ l, sz l ≤ 32) {b : Nat → Nat} {N : Nat} (hN : N ≤ 32) (h9 : s.1 0 0 9 = nI N) (hno : ∀ k, k / 4 = l → S.cp i k = false) (hb : ∀ j, j < 32 → bytI (s.2 21 0 (j / 8)) (j % 8) = nI (b j)) :
    ∃ s', f_X_handOverText i (nI l) s = mm_rv s' ∧ RS s' sz (oPost S i l (pc N) b) ∧ (∀ F, F ≠ 0 → (F < 7 ∨ 11 < F) → s'.1 F = s.1 F) ∧ (∀ F, (F < 7 ∨ 11 < F) → F ≠ 21 → s'.2 F = s.2 F) ∧ (∀ i k, ¬ (i = 0 ∧ k = 9) → s'.1 0 i k = s.1 0 i k) ∧ s'.1 0 0 9 = nI 0 ∧ (∀ k, k < 4 → s'.2 21 0 k = 0) := by
  unfold f_X_handOverText
  rw [gf_ok, h9, X_piecesIn (by omega), cI_ok]
  obtain ⟨s1, e1, h1, f1⟩ := X_hand_lp (S := S) hi hl hs (b := b) (N := pc N) (by unfold pc; omega) hno (kk := fun s11 => mm_cV (f_A_fillJ 21 0 4 ((0 : Int64)) s11) fun s46 => mm_pf s46 0 0 9 ((0 : Int32)) fun s51 => mm_rv s51) (pc N) FU 0 s (by omega) (by unfold FU pc; omega) (by rw [oPost_0]; exact h) hb
  obtain ⟨s2, e2, g1, g2, g3⟩ := A_fillJ (F := 21) (i := 0) (N := 4) (x := 0) (by decide) s1
  refine ⟨mm_wI s2 0 0 9 (nI 0), ?_, ?_, fun F h1 h2 => ?_, fun F h1 h2 => ?_, fun i k h => ?_, wI_y, fun k hk => g1 k hk⟩
  · refine e1.trans ?_
    show mm_cV (f_A_fillJ 21 0 4 0 s1) _ = _
    rw [e2, cV_ok, pf_ok]; rfl
  · refine h1.fr ?_ ?_ ?_ ?_ ?_
    · rw [wI_ne (by decide), g3]
    · rw [wI_ne (by decide), g3]
    · rw [wI_ne (by decide), g3]
    · rw [wI_2]; funext a b; exact g2 _ _ _ (by omega)
    · rw [wI_ne (by decide), g3]
  · rw [wI_ne h1, g3, (f1 F h2).1]
  · rw [wI_2]; funext a b; rw [g2 _ _ _ (by omega)]
    rw [(f1 F h1).2]
  · rw [wI_n (by omega), g3, (f1 0 (by omega)).1]
end

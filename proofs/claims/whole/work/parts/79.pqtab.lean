section
variable {T : List Hlt}
theorem M_stopAt_lp (hlen : T.length ≤ 24) {x1 x2 : Int32} {s : Mem} (hT : TabM s 7 T) {kk : Mem → RR} : ∀ (m n j : Nat), j + m = T.length → m < n →
    (∃ a, ∃ h : a < T.length, j ≤ a ∧ nI T[a].1 = x1 ∧ nI T[a].2.2 = x2 ∧ lp_M_stopAt_4 x1 x2 kk n (nI (168 + j)) s = mm_ri (nI (168 + a)) s) ∨ ((∀ a, ∀ h : a < T.length, j ≤ a → ¬ (nI T[a].1 = x1 ∧ nI T[a].2.2 = x2)) ∧ lp_M_stopAt_4 x1 x2 kk n (nI (168 + j)) s = kk s) := by
  intro m
  induction m with
  | zero =>
    intro n j hp hn
    obtain ⟨n, rfl⟩ : ∃ n', n = n' + 1 := ⟨n - 1, by omega⟩
    refine .inr ⟨fun a h1 h2 => by omega, ?_⟩
    unfold lp_M_stopAt_4
    rw [show (7 : Int32) = nI 7 from rfl, ld_ok (by omega) (by omega), hT.cnt, show 168 + nI T.length = nI (168 + T.length) by simp only [qI_lit, qI_add], if_pos (by simp (disch := omega) only [qI_lit, qI_m1, qI_add, qI_mul, qI_le, qI_lt, qI_inj, qI_ne_m, m_ne_nI, m_lt_nI, m_le_nI, qI_lt_m, qI_le_m, qI_sub, qI_div, qI_rem, bI_0, bI_1]; omega)]
  | succ m ih =>
    intro n j hp hn
    obtain ⟨n, rfl⟩ : ∃ n', n = n' + 1 := ⟨n - 1, by omega⟩
    unfold lp_M_stopAt_4
    have hj : j < T.length := by omega
    obtain ⟨r1, r2, r3⟩ := hT.row j _ (List.getElem?_eq_getElem hj)
    rw [show 24 * 7 + j = 168 + j by omega] at r1 r2 r3
    rw [show (7 : Int32) = nI 7 from rfl, ld_ok (by omega) (by omega), hT.cnt, show 168 + nI T.length = nI (168 + T.length) by simp only [qI_lit, qI_add], if_neg (by simp (disch := omega) only [qI_lit, qI_m1, qI_add, qI_mul, qI_le, qI_lt, qI_inj, qI_ne_m, m_ne_nI, m_lt_nI, m_le_nI, qI_lt_m, qI_le_m, qI_sub, qI_div, qI_rem, bI_0, bI_1]; omega), ld_ok (by omega) (by omega), r1, show nI (168 + j) + 1 = nI (168 + (j + 1)) by simp (disch := omega) only [qI_lit, qI_m1, qI_add, qI_mul, qI_le, qI_lt, qI_inj, qI_ne_m, m_ne_nI, m_lt_nI, m_le_nI, qI_lt_m, qI_le_m, qI_sub, qI_div, qI_rem, bI_0, bI_1]; omega, ld_ok (by omega) (by omega), r3]
    by_cases c : nI T[j].1 = x1 ∧ nI T[j].2.2 = x2
    · rw [if_neg (fun h => h c.1), if_neg (fun h => h c.2)]
      exact .inl ⟨j, hj, Nat.le_refl _, c.1, c.2, rfl⟩
    · have hgo : (if ¬ nI T[j].1 = x1 then lp_M_stopAt_4 x1 x2 kk n (nI (168 + (j + 1))) s else if ¬ nI T[j].2.2 = x2 then lp_M_stopAt_4 x1 x2 kk n (nI (168 + (j + 1))) s else mm_ri (nI (168 + j)) s) = lp_M_stopAt_4 x1 x2 kk n (nI (168 + (j + 1))) s := by
        by_cases c1 : nI T[j].1 = x1
        · rw [if_neg (fun h => h c1), if_pos (fun h => c ⟨c1, h⟩)]
        · rw [if_pos c1]
      rw [hgo]
      rcases ih n (j + 1) (by omega) (by omega) with ⟨a, h1, h2, h3⟩ | ⟨h1, h2⟩
      · exact .inl ⟨a, h1, by omega, h3⟩
      · refine .inr ⟨fun a g1 g2 => ?_, h2⟩
        by_cases e : a = j
        · subst e; exact c
        · exact h1 a g1 (by omega)
theorem M_stopAt (hlen : T.length ≤ 24) {x1 x2 : Int32} {s : Mem} (hT : TabM s 7 T) :
    (∃ a, ∃ h : a < T.length, nI T[a].1 = x1 ∧ nI T[a].2.2 = x2 ∧ f_M_stopAt x1 x2 s = mm_ri (nI (168 + a)) s) ∨ ((∀ x ∈ T, ¬ (nI x.1 = x1 ∧ nI x.2.2 = x2)) ∧ f_M_stopAt x1 x2 s = mm_ri mone s) := by
  unfold f_M_stopAt
  rw [show (168 : Int32) = nI (168 + 0) from rfl]
  rcases M_stopAt_lp hlen (x1 := x1) (x2 := x2) hT (kk := fun s2 => mm_ri (-1) s2) T.length FU 0 (by omega) (by unfold FU; omega) with ⟨a, h1, _, h3, h4, h5⟩ | ⟨h1, h2⟩
  · exact .inl ⟨a, h1, h3, h4, h5⟩
  · refine .inr ⟨fun x hx => ?_, h2⟩
    obtain ⟨a, ha, rfl⟩ := List.getElem_of_mem hx
    exact h1 a ha (Nat.zero_le _)
def FrD (s s' : Mem) : Prop := ∀ F, (F < 31 ∨ 34 < F) → s'.1 F = s.1 F ∧ s'.2 F = s.2 F
theorem FrD.rf {s : Mem} : FrD s s := fun _ _ => ⟨rfl, rfl⟩
theorem FrD.tr {a b c : Mem} (h : FrD a b) (g : FrD b c) : FrD a c := fun F hF => ⟨(g F hF).1.trans (h F hF).1, (g F hF).2.trans (h F hF).2⟩
theorem FrD.wI {s : Mem} {F i k : Nat} {v : Int32} (h : 31 ≤ F ∧ F ≤ 34) : FrD s (mm_wI s F i k v) := fun F' hF => ⟨wI_ne (by omega), rfl⟩
def rowM (s : Mem) (j : Nat) (x : Hlt) : Prop := s.1 31 0 j = nI x.1 ∧ s.1 32 0 j = nI x.2.1 ∧ s.1 33 0 j = nI x.2.2
theorem M_copyStop {s : Mem} {a b : Nat} (ha : a < 192) (hb : b < 192) {x : Hlt} (hx : rowM s a x) : ∃ s', f_M_copyStop (nI a) (nI b) s = mm_rv s' ∧ rowM s' b x ∧ (∀ k, k ≠ b → ∀ F, s'.1 F 0 k = s.1 F 0 k) ∧ s'.1 34 = s.1 34 ∧ FrD s s' := by
  obtain ⟨r1, r2, r3⟩ := hx
  unfold f_M_copyStop
  rw [ld_ok ha (by omega), r1, st_ok hb (by omega), ld_ok ha (by omega), wI_ne (by decide), r2, st_ok hb (by omega), ld_ok ha (by omega), wI_ne (by decide), wI_ne (by decide), r3, st_ok hb (by omega)]
  refine ⟨_, rfl, ⟨?_, ?_, ?_⟩, fun k hk F => ?_, ?_, (FrD.wI (by omega)).tr ((FrD.wI (by omega)).tr (FrD.wI (by omega)))⟩
  · rw [wI_ne (by decide), wI_ne (by decide), wI_y]
  · rw [wI_ne (by decide), wI_y]
  · rw [wI_y]
  · rw [wI_k hk, wI_k hk, wI_k hk]
  · rw [wI_ne (by decide), wI_ne (by decide), wI_ne (by decide)]
end

def FrT (t : Nat) (s s' : Mem) : Prop := (∀ F, (F < 1 ∨ 4 < F) → s'.1 F = s.1 F) ∧ (∀ F j, j ≠ t → s'.1 F j = s.1 F j) ∧ s'.2 = s.2
theorem FrT.rf {t : Nat} {s : Mem} : FrT t s s := ⟨fun _ _ => rfl, fun _ _ _ => rfl, rfl⟩
theorem FrT.tr {t : Nat} {a b c : Mem} (h : FrT t a b) (g : FrT t b c) : FrT t a c := ⟨fun F hF => (g.1 F hF).trans (h.1 F hF), fun F j hj => (g.2.1 F j hj).trans (h.2.1 F j hj), g.2.2.trans h.2.2⟩
theorem FrT.wI {s : Mem} {F t k : Nat} {v : Int32} (h : 1 ≤ F ∧ F ≤ 4) : FrT t s (mm_wI s F t k v) := ⟨fun F' hF => wI_ne (by omega), fun F' j hj => funext fun k' => wI_n (fun h9 => hj h9.2.1), rfl⟩
def rowT (s : Mem) (t j : Nat) (x : Hlt) : Prop := s.1 2 t j = nI x.1 ∧ s.1 3 t j = nI x.2.1 ∧ s.1 4 t j = nI x.2.2
section
variable {t : Nat} {L : List Hlt}
theorem T_find_lp (hlen : L.length ≤ 24) {x1 x2 : Int32} {s : Mem} (hT : TabC s t L) {kk : Mem → RR} : ∀ (m n j : Nat), j + m = L.length → m < n →
    (∃ a, ∃ h : a < L.length, j ≤ a ∧ nI L[a].1 = x1 ∧ nI L[a].2.2 = x2 ∧ lp_T_find_2 t x1 x2 kk n (nI j) s = mm_ri (nI a) s) ∨ ((∀ a, ∀ h : a < L.length, j ≤ a → ¬ (nI L[a].1 = x1 ∧ nI L[a].2.2 = x2)) ∧ lp_T_find_2 t x1 x2 kk n (nI j) s = kk s) := by
  intro m
  induction m with
  | zero =>
    intro n j hp hn
    obtain ⟨n, rfl⟩ : ∃ n', n = n' + 1 := ⟨n - 1, by omega⟩
    refine .inr ⟨fun a h1 h2 => by omega, ?_⟩
    unfold lp_T_find_2
    simp only [mm_gf]
    rw [hT.cnt, if_pos (by simp (disch := omega) only [qI_lit, qI_m1, qI_add, qI_mul, qI_le, qI_lt, qI_inj, qI_ne_m, m_ne_nI, m_lt_nI, m_le_nI, qI_lt_m, qI_le_m, qI_sub, qI_div, qI_rem, bI_0, bI_1]; omega)]
  | succ m ih =>
    intro n j hp hn
    obtain ⟨n, rfl⟩ : ∃ n', n = n' + 1 := ⟨n - 1, by omega⟩
    unfold lp_T_find_2
    simp only [mm_gf]
    have hj : j < L.length := by omega
    obtain ⟨r1, r2, r3⟩ := hT.row j _ (List.getElem?_eq_getElem hj)
    rw [hT.cnt, if_neg (by simp (disch := omega) only [qI_lit, qI_m1, qI_add, qI_mul, qI_le, qI_lt, qI_inj, qI_ne_m, m_ne_nI, m_lt_nI, m_le_nI, qI_lt_m, qI_le_m, qI_sub, qI_div, qI_rem, bI_0, bI_1]; omega), ld_ok (by omega) (by omega), r1, show nI j + 1 = nI (j + 1) by simp (disch := omega) only [qI_lit, qI_m1, qI_add, qI_mul, qI_le, qI_lt, qI_inj, qI_ne_m, m_ne_nI, m_lt_nI, m_le_nI, qI_lt_m, qI_le_m, qI_sub, qI_div, qI_rem, bI_0, bI_1], ld_ok (by omega) (by omega), r3]
    by_cases c : nI L[j].1 = x1 ∧ nI L[j].2.2 = x2
    · rw [if_neg (fun h => h c.1), if_neg (fun h => h c.2)]
      exact .inl ⟨j, hj, Nat.le_refl _, c.1, c.2, rfl⟩
    · have hgo : (if ¬ nI L[j].1 = x1 then lp_T_find_2 t x1 x2 kk n (nI (j + 1)) s else if ¬ nI L[j].2.2 = x2 then lp_T_find_2 t x1 x2 kk n (nI (j + 1)) s else mm_ri (nI j) s) = lp_T_find_2 t x1 x2 kk n (nI (j + 1)) s := by
        by_cases c1 : nI L[j].1 = x1
        · rw [if_neg (fun h => h c1), if_pos (fun h => c ⟨c1, h⟩)]
        · rw [if_pos c1]
      rw [hgo]
      rcases ih n (j + 1) (by omega) (by omega) with ⟨a, h1, h2, h3⟩ | ⟨h1, h2⟩
      · exact .inl ⟨a, h1, by omega, h3⟩
      · refine .inr ⟨fun a g1 g2 => ?_, h2⟩
        by_cases e : a = j
        · subst e; exact c
        · exact h1 a g1 (by omega)
theorem T_find (hlen : L.length ≤ 24) {x1 x2 : Int32} {s : Mem} (hT : TabC s t L) :
    (∃ a, ∃ h : a < L.length, nI L[a].1 = x1 ∧ nI L[a].2.2 = x2 ∧ f_T_find t x1 x2 s = mm_ri (nI a) s) ∨ ((∀ x ∈ L, ¬ (nI x.1 = x1 ∧ nI x.2.2 = x2)) ∧ f_T_find t x1 x2 s = mm_ri mone s) := by
  unfold f_T_find
  rcases T_find_lp hlen (x1 := x1) (x2 := x2) hT (kk := fun s2 => mm_ri (-1) s2) L.length FU 0 (by omega) (by unfold FU; omega) with ⟨a, h1, _, h3, h4, h5⟩ | ⟨h1, h2⟩
  · exact .inl ⟨a, h1, h3, h4, h5⟩
  · refine .inr ⟨fun x hx => ?_, h2⟩
    obtain ⟨a, ha, rfl⟩ := List.getElem_of_mem hx
    exact h1 a ha (Nat.zero_le _)
theorem T_set {s : Mem} {j : Nat} (hj : j < 24) (x : Hlt) : ∃ s', f_T_set t (nI j) (nI x.1) (nI x.2.1) (nI x.2.2) s = mm_rv s' ∧ rowT s' t j x ∧ (∀ k, k ≠ j → ∀ F, s'.1 F t k = s.1 F t k) ∧ s'.1 1 = s.1 1 ∧ FrT t s s' := by
  unfold f_T_set
  rw [st_ok hj (by omega), st_ok hj (by omega), st_ok hj (by omega)]
  refine ⟨_, rfl, ⟨?_, ?_, ?_⟩, fun k hk F => ?_, ?_, (FrT.wI (by omega)).tr ((FrT.wI (by omega)).tr (FrT.wI (by omega)))⟩
  · rw [wI_ne (by decide), wI_ne (by decide), wI_y]
  · rw [wI_ne (by decide), wI_y]
  · rw [wI_y]
  · rw [wI_k hk, wI_k hk, wI_k hk]
  · rw [wI_ne (by decide), wI_ne (by decide), wI_ne (by decide)]
theorem rowT.of {s s' : Mem} {j : Nat} {x : Hlt} (h : rowT s t j x) (e : ∀ F, s'.1 F t j = s.1 F t j) : rowT s' t j x := ⟨(e 2).trans h.1, (e 3).trans h.2.1, (e 4).trans h.2.2⟩
def ShT (s : Mem) (t : Nat) (L : List Hlt) (a : Nat) : Prop := (∀ j x, j < a → L[j]? = some x → rowT s t j x) ∧ (∀ j x, a ≤ j → L[j]? = some x → rowT s t (j + 1) x)
theorem T_insert_lp (hlen : L.length < 24) (hb : ∀ x ∈ L, x.2.2 < 10080) {x : Hlt} (hx : x.2.2 < 10080) {x1 x2 : Int32} {kk : Int32 → Mem → RR} : ∀ (a n : Nat) (s : Mem), a ≤ L.length → a < n → ShT s t L a → (∀ j, ∀ h : j < L.length, a ≤ j → x.2.2 < L[j].2.2) →
    ∃ b s', lp_T_insert_6 t x1 x2 (nI x.2.2) kk n (nI a) s = kk (nI b) s' ∧ b ≤ L.length ∧ ShT s' t L b ∧ (∀ j, ∀ h : j < L.length, b ≤ j → x.2.2 < L[j].2.2) ∧ (∀ h : b - 1 < L.length, 0 < b → L[b - 1].2.2 ≤ x.2.2) ∧ s'.1 1 = s.1 1 ∧ FrT t s s' := by
  intro a
  induction a with
  | zero =>
    intro n s ha hn hS hgt
    obtain ⟨n, rfl⟩ : ∃ n', n = n' + 1 := ⟨n - 1, by omega⟩
    unfold lp_T_insert_6
    rw [if_pos (by decide)]
    exact ⟨0, s, rfl, Nat.zero_le _, hS, hgt, fun _ h => absurd h (by omega), rfl, FrT.rf⟩
  | succ a ih =>
    intro n s ha hn hS hgt
    obtain ⟨n, rfl⟩ : ∃ n', n = n' + 1 := ⟨n - 1, by omega⟩
    unfold lp_T_insert_6
    have hj : a < L.length := by omega
    have hx0 := hb L[a] (List.getElem_mem hj)
    obtain ⟨r1, r2, r3⟩ := hS.1 a _ (by omega) (List.getElem?_eq_getElem hj)
    rw [if_neg (by simp (disch := omega) only [qI_lit, qI_m1, qI_add, qI_mul, qI_le, qI_lt, qI_inj, qI_ne_m, m_ne_nI, m_lt_nI, m_le_nI, qI_lt_m, qI_le_m, qI_sub, qI_div, qI_rem, bI_0, bI_1]; omega), show nI (a + 1) - 1 = nI a by simp (disch := omega) only [qI_lit, qI_m1, qI_add, qI_mul, qI_le, qI_lt, qI_inj, qI_ne_m, m_ne_nI, m_lt_nI, m_le_nI, qI_lt_m, qI_le_m, qI_sub, qI_div, qI_rem, bI_0, bI_1]; omega, ld_ok (by omega) (by omega), r3]
    · by_cases c : L[a].2.2 ≤ x.2.2
      · rw [if_pos (by simp (disch := omega) only [qI_lit, qI_m1, qI_add, qI_mul, qI_le, qI_lt, qI_inj, qI_ne_m, m_ne_nI, m_lt_nI, m_le_nI, qI_lt_m, qI_le_m, qI_sub, qI_div, qI_rem, bI_0, bI_1]; exact c)]
        exact ⟨a + 1, s, rfl, ha, hS, hgt, fun h _ => c, rfl, FrT.rf⟩
      · rw [if_neg (by simp (disch := omega) only [qI_lit, qI_m1, qI_add, qI_mul, qI_le, qI_lt, qI_inj, qI_ne_m, m_ne_nI, m_lt_nI, m_le_nI, qI_lt_m, qI_le_m, qI_sub, qI_div, qI_rem, bI_0, bI_1]; exact c), ld_ok (by omega) (by omega), r1, ld_ok (by omega) (by omega), r2, ld_ok (by omega) (by omega), r3]
        obtain ⟨s1, e1, w1, k1, o1, f1⟩ := T_set (t := t) (s := s) (j := a + 1) (by omega) L[a]
        have e9 : nI (a + 1) + -1 = nI a := by
          rw [show nI (a + 1) = nI a + 1 by simp only [qI_lit, qI_add], Int32.add_assoc, show (1 : Int32) + -1 = 0 by decide, Int32.add_zero]
        rw [e1, cV_ok, e9]
        have hS1 : ShT s1 t L a := by
          refine ⟨fun j y g1 g2 => (hS.1 j y (by omega) g2).of (k1 j (by omega)), fun j y g1 g2 => ?_⟩
          by_cases ej : j = a
          · subst ej
            rw [List.getElem?_eq_getElem hj] at g2
            cases g2; exact w1
          · exact (hS.2 j y (by omega) g2).of (k1 (j + 1) (by omega))
        obtain ⟨b, s2, e2, h1, h2, h3, h4, h5, f2⟩ := ih n s1 (by omega) (by omega) hS1 (fun j g1 g2 => by
          by_cases ej : j = a
          · subst ej; omega
          · exact hgt j g1 (by omega))
        exact ⟨b, s2, e2, h1, h2, h3, h4, h5.trans o1, f1.tr f2⟩
end
theorem gf_ok {s : Mem} {F i q : Nat} {k : Int32 → RR} : mm_gf s F i q k = k (s.1 F i q) := rfl
section
variable {t : Nat} {L : List Hlt}
theorem T_insert_n {s : Mem} (hT : TabC s t L) (hs : SrtT L) (hlen : L.length < 24) (hb : ∀ x ∈ L, x.2.2 < 10080) {x : Hlt} (hx : x.2.2 < 10080) {n : Nat} (hn : L.length < n) :
    ∃ s' L', lp_T_insert_6 t (nI x.1) (nI x.2.1) (nI x.2.2) (fun x4_6 s6 => mm_cV (f_T_set t x4_6 (nI x.1) (nI x.2.1) (nI x.2.2) s6) fun s69 => mm_gf s69 1 t 3 fun v74 => mm_pf s69 1 t 3 (v74 + 1) fun s79 => mm_rv s79) n (nI L.length) s = mm_rv s' ∧ TabC s' t L' ∧ SrtT L' ∧ L'.Perm (x :: L) ∧ FrT t s s' := by
  obtain ⟨b, s1, e1, h1, h2, h3, h4, h5, f1⟩ := T_insert_lp (t := t) (x1 := nI x.1) (x2 := nI x.2.1) (kk := fun x4_6 s6 => mm_cV (f_T_set t x4_6 (nI x.1) (nI x.2.1) (nI x.2.2) s6) fun s69 => mm_gf s69 1 t 3 fun v74 => mm_pf s69 1 t 3 (v74 + 1) fun s79 => mm_rv s79) hlen hb hx L.length n s (Nat.le_refl _) hn ⟨fun j y g1 g2 => hT.row j y g2, fun j y g1 g2 => by have := (List.getElem?_eq_some_iff.mp g2).1; omega⟩ (fun j g1 g2 => by omega)
  rw [e1]
  obtain ⟨s2, e2, w2, k2, o2, f2⟩ := T_set (t := t) (s := s1) (j := b) (by omega) x
  rw [e2, cV_ok]
  have hcnt : s2.1 1 t 3 = nI L.length := by rw [o2, h5]; exact hT.cnt
  refine ⟨_, L.take b ++ x :: L.drop b, rfl, ⟨?_, fun j y hy => ?_⟩, ?_, ?_, f1.tr (f2.tr (FrT.wI (by omega)))⟩
  · rw [wI_y, hcnt]
    simp only [qI_lit, qI_add, List.length_append, List.length_cons, List.length_take, List.length_drop]
    congr 1; omega
  · have hr : rowT s2 t j y := by
      by_cases c1 : j < b
      · rw [List.getElem?_append_left (by rw [List.length_take]; omega), List.getElem?_take_of_lt c1] at hy
        exact (h2.1 j y c1 hy).of (k2 j (by omega))
      · rw [List.getElem?_append_right (by rw [List.length_take]; omega), List.length_take, show min b L.length = b by omega] at hy
        by_cases c2 : j = b
        · rw [c2, Nat.sub_self] at hy; cases hy; rw [c2]; exact w2
        · obtain ⟨d, rfl⟩ : ∃ d, j = b + d + 1 := ⟨j - b - 1, by omega⟩
          rw [show b + d + 1 - b = d + 1 by omega, List.getElem?_cons_succ, List.getElem?_drop] at hy
          exact (h2.2 (b + d) y (by omega) hy).of (k2 (b + d + 1) (by omega))
    exact hr
  · unfold SrtT at hs ⊢
    rw [List.pairwise_append]
    refine ⟨hs.sublist (List.take_sublist _ _), ?_, ?_⟩
    · rw [List.pairwise_cons]
      refine ⟨fun y hy => ?_, hs.sublist (List.drop_sublist _ _)⟩
      obtain ⟨d, hd, rfl⟩ := List.getElem_of_mem hy
      rw [List.length_drop] at hd
      rw [List.getElem_drop]
      exact Nat.le_of_lt (h3 (b + d) (by omega) (by omega))
    · intro y hy z hz
      obtain ⟨d, hd, rfl⟩ := List.getElem_of_mem hy
      rw [List.length_take] at hd
      rw [List.getElem_take]
      have hyx : L[d].2.2 ≤ x.2.2 := by
        have h6 := h4 (by omega) (by omega)
        by_cases e : d = b - 1
        · subst e; exact h6
        · exact Nat.le_trans (List.pairwise_iff_getElem.mp hs d (b - 1) (by omega) (by omega) (by omega)) h6
      rcases List.mem_cons.mp hz with rfl | hz
      · exact hyx
      · obtain ⟨d', hd', rfl⟩ := List.getElem_of_mem hz
        rw [List.length_drop] at hd'
        rw [List.getElem_drop]
        exact Nat.le_trans hyx (Nat.le_of_lt (h3 (b + d') (by omega) (by omega)))
  · have := List.perm_middle (a := x) (l₁ := L.take b) (l₂ := L.drop b)
    rw [List.take_append_drop] at this
    exact this
theorem T_insert {s : Mem} (hT : TabC s t L) (hs : SrtT L) (hlen : L.length < 24) (hb : ∀ x ∈ L, x.2.2 < 10080) {x : Hlt} (hx : x.2.2 < 10080) :
    ∃ s' L', f_T_insert t (nI x.1) (nI x.2.1) (nI x.2.2) s = mm_rv s' ∧ TabC s' t L' ∧ SrtT L' ∧ L'.Perm (x :: L) ∧ FrT t s s' := by
  unfold f_T_insert
  rw [gf_ok, hT.cnt]
  exact T_insert_n (n := FU) hT hs hlen hb hx (by unfold FU; omega)
end

-- the reference's stores
def QS (s : Mem) (sz : Nat → Nat) (S : Sto) : Prop := (∀ i, i < 12 → s.1 35 0 i = nI (S.held i)) ∧ (∀ i k, i < 12 → k < 64 → s.1 46 0 (64 * i + k) = bI (S.cp i k)) ∧ (∀ i k, i < 12 → k < 64 → S.vb i k = true → s.1 47 0 (64 * i + k) = nI (S.hp i k)) ∧ (∀ i k, i < 12 → k < 64 → s.1 48 0 (64 * i + k) = nI (S.nw i k)) ∧ (∀ i l j, i < 12 → l < 16 → j < sz l → S.vb i (4 * l + j / 8) = true → s.1 49 0 (512 * i + 32 * l + j) = nI (S.bt i l j)) ∧ (∀ i l, i < 12 → l < 16 → s.1 50 0 (16 * i + l) = nI (S.kn i l)) ∧ (∀ i, i < 12 → s.1 51 0 i = nI (S.ea i)) ∧ (∀ i, i < 12 → s.1 52 0 i = nI (S.rf i)) ∧ (∀ i k, S.hp i k < 1000000) ∧ (∀ i k, S.nw i k < 1000000) ∧ (∀ i k, S.cp i k = true → S.vb i k = true) ∧ (∀ l, sz l ≤ 32)
theorem QS.hel {s : Mem} {sz : Nat → Nat} {S : Sto} (h : QS s sz S) : ∀ i, i < 12 → s.1 35 0 i = nI (S.held i) := h.1
theorem QS.cop {s : Mem} {sz : Nat → Nat} {S : Sto} (h : QS s sz S) : ∀ i k, i < 12 → k < 64 → s.1 46 0 (64 * i + k) = bI (S.cp i k) := h.2.1
theorem QS.hop {s : Mem} {sz : Nat → Nat} {S : Sto} (h : QS s sz S) : ∀ i k, i < 12 → k < 64 → S.vb i k = true → s.1 47 0 (64 * i + k) = nI (S.hp i k) := h.2.2.1
theorem QS.new {s : Mem} {sz : Nat → Nat} {S : Sto} (h : QS s sz S) : ∀ i k, i < 12 → k < 64 → s.1 48 0 (64 * i + k) = nI (S.nw i k) := h.2.2.2.1
theorem QS.byt {s : Mem} {sz : Nat → Nat} {S : Sto} (h : QS s sz S) : ∀ i l j, i < 12 → l < 16 → j < sz l → S.vb i (4 * l + j / 8) = true → s.1 49 0 (512 * i + 32 * l + j) = nI (S.bt i l j) := h.2.2.2.2.1
theorem QS.kno {s : Mem} {sz : Nat → Nat} {S : Sto} (h : QS s sz S) : ∀ i l, i < 12 → l < 16 → s.1 50 0 (16 * i + l) = nI (S.kn i l) := h.2.2.2.2.2.1
theorem QS.exl {s : Mem} {sz : Nat → Nat} {S : Sto} (h : QS s sz S) : ∀ i, i < 12 → s.1 51 0 i = nI (S.ea i) := h.2.2.2.2.2.2.1
theorem QS.ref {s : Mem} {sz : Nat → Nat} {S : Sto} (h : QS s sz S) : ∀ i, i < 12 → s.1 52 0 i = nI (S.rf i) := h.2.2.2.2.2.2.2.1
theorem QS.hlt {s : Mem} {sz : Nat → Nat} {S : Sto} (h : QS s sz S) : ∀ i k, S.hp i k < 1000000 := h.2.2.2.2.2.2.2.2.1
theorem QS.nlt {s : Mem} {sz : Nat → Nat} {S : Sto} (h : QS s sz S) : ∀ i k, S.nw i k < 1000000 := h.2.2.2.2.2.2.2.2.2.1
theorem QS.vcp {s : Mem} {sz : Nat → Nat} {S : Sto} (h : QS s sz S) : ∀ i k, S.cp i k = true → S.vb i k = true := h.2.2.2.2.2.2.2.2.2.2.1
theorem QS.szl {s : Mem} {sz : Nat → Nat} {S : Sto} (h : QS s sz S) : ∀ l, sz l ≤ 32 := h.2.2.2.2.2.2.2.2.2.2.2
def FrQ (s s' : Mem) : Prop := ∀ F, (F ≠ 35 ∧ (F < 46 ∨ 52 < F)) → s'.1 F = s.1 F ∧ s'.2 F = s.2 F
theorem FrQ.rf {s : Mem} : FrQ s s := fun _ _ => ⟨rfl, rfl⟩
theorem FrQ.tr {a b c : Mem} (h : FrQ a b) (g : FrQ b c) : FrQ a c := fun F hF => ⟨(g F hF).1.trans (h F hF).1, (g F hF).2.trans (h F hF).2⟩
theorem FrQ.wI {s : Mem} {F i k : Nat} {v : Int32} (h : F = 35 ∨ (46 ≤ F ∧ F ≤ 52)) : FrQ s (mm_wI s F i k v) := fun F' hF => ⟨wI_ne (by omega), rfl⟩
theorem wI_n {s : Mem} {F i k F' i' k' : Nat} {v : Int32} (h : ¬ (F' = F ∧ i' = i ∧ k' = k)) : (mm_wI s F i k v).1 F' i' k' = s.1 F' i' k' := if_neg h
theorem wI_y {s : Mem} {F i k : Nat} {v : Int32} : (mm_wI s F i k v).1 F i k = v := if_pos ⟨rfl, rfl, rfl⟩
section
variable {s : Mem} {sz : Nat → Nat} {S : Sto} {i k l : Nat}
theorem QS_cp (h : QS s sz S) (hi : i < 12) (hk : k < 64) {b : Bool} (hv : b = true → S.vb i k = true) : QS (mm_wI s 46 0 (64 * i + k) (bI b)) sz (mkSto (u2 S.cp i k b) S.vb S.hp S.nw S.kn S.bt S.held S.ea S.rf) := by
  refine ⟨h.hel, fun i' k' hi' hk' => ?_, h.hop, h.new, h.byt, h.kno, h.exl, h.ref, h.hlt, h.nlt, fun i' k' hc' => ?_, h.szl⟩
  · show _ = bI (u2 S.cp i k b i' k')
    by_cases e : i' = i ∧ k' = k
    · rw [e.1, e.2, u2_at, wI_y]
    · rw [u2_ne e, wI_n (by omega)]; exact h.cop _ _ hi' hk'
  · have h9 : u2 S.cp i k b i' k' = true := hc'
    by_cases e : i' = i ∧ k' = k
    · rw [e.1, e.2] at h9 ⊢; rw [u2_at] at h9; exact hv h9
    · rw [u2_ne e] at h9; exact h.vcp _ _ h9
theorem QS_nw (h : QS s sz S) (hi : i < 12) (hk : k < 64) {t : Nat} (ht : t < 1000000) : QS (mm_wI s 48 0 (64 * i + k) (nI t)) sz (mkSto S.cp S.vb S.hp (u2 S.nw i k t) S.kn S.bt S.held S.ea S.rf) := by
  refine ⟨h.hel, h.cop, h.hop, fun i' k' hi' hk' => ?_, h.byt, h.kno, h.exl, h.ref, h.hlt, fun i' k' => ?_, h.vcp, h.szl⟩
  · show _ = nI (u2 S.nw i k t i' k')
    by_cases e : i' = i ∧ k' = k
    · rw [e.1, e.2, u2_at, wI_y]
    · rw [u2_ne e, wI_n (by omega)]; exact h.new _ _ hi' hk'
  · show u2 S.nw i k t i' k' < _
    by_cases e : i' = i ∧ k' = k
    · rw [e.1, e.2, u2_at]; exact ht
    · rw [u2_ne e]; exact h.nlt _ _
theorem QS_hp (h : QS s sz S) (hi : i < 12) (hk : k < 64) {t : Nat} (ht : t < 1000000) : QS (mm_wI s 47 0 (64 * i + k) (nI t)) sz (mkSto S.cp S.vb (u2 S.hp i k t) S.nw S.kn S.bt S.held S.ea S.rf) := by
  refine ⟨h.hel, h.cop, fun i' k' hi' hk' hv' => ?_, h.new, h.byt, h.kno, h.exl, h.ref, fun i' k' => ?_, h.nlt, h.vcp, h.szl⟩
  · show _ = nI (u2 S.hp i k t i' k')
    by_cases e : i' = i ∧ k' = k
    · rw [e.1, e.2, u2_at, wI_y]
    · rw [u2_ne e, wI_n (by omega)]; exact h.hop _ _ hi' hk' hv'
  · show u2 S.hp i k t i' k' < _
    by_cases e : i' = i ∧ k' = k
    · rw [e.1, e.2, u2_at]; exact ht
    · rw [u2_ne e]; exact h.hlt _ _
theorem QS_kn (h : QS s sz S) (hi : i < 12) (hl : l < 16) {t : Nat} : QS (mm_wI s 50 0 (16 * i + l) (nI t)) sz (mkSto S.cp S.vb S.hp S.nw (u2 S.kn i l t) S.bt S.held S.ea S.rf) := by
  refine ⟨h.hel, h.cop, h.hop, h.new, h.byt, fun i' k' hi' hk' => ?_, h.exl, h.ref, h.hlt, h.nlt, h.vcp, h.szl⟩
  show _ = nI (u2 S.kn i l t i' k')
  by_cases e : i' = i ∧ k' = l
  · rw [e.1, e.2, u2_at, wI_y]
  · rw [u2_ne e, wI_n (by omega)]; exact h.kno _ _ hi' hk'
theorem QS_held (h : QS s sz S) {t : Nat} : QS (mm_wI s 35 0 i (nI t)) sz (mkSto S.cp S.vb S.hp S.nw S.kn S.bt (u1 S.held i t) S.ea S.rf) := by
  refine ⟨fun i' hi' => ?_, h.cop, h.hop, h.new, h.byt, h.kno, h.exl, h.ref, h.hlt, h.nlt, h.vcp, h.szl⟩
  show _ = nI (u1 S.held i t i')
  by_cases e : i' = i
  · rw [e, u1_at, wI_y]
  · rw [u1_ne e, wI_n (by omega)]; exact h.hel _ hi'
theorem QS_ea (h : QS s sz S) {t : Nat} : QS (mm_wI s 51 0 i (nI t)) sz (mkSto S.cp S.vb S.hp S.nw S.kn S.bt S.held (u1 S.ea i t) S.rf) := by
  refine ⟨h.hel, h.cop, h.hop, h.new, h.byt, h.kno, fun i' hi' => ?_, h.ref, h.hlt, h.nlt, h.vcp, h.szl⟩
  show _ = nI (u1 S.ea i t i')
  by_cases e : i' = i
  · rw [e, u1_at, wI_y]
  · rw [u1_ne e, wI_n (by omega)]; exact h.exl _ hi'
theorem QS_rf (h : QS s sz S) {t : Nat} : QS (mm_wI s 52 0 i (nI t)) sz (mkSto S.cp S.vb S.hp S.nw S.kn S.bt S.held S.ea (u1 S.rf i t)) := by
  refine ⟨h.hel, h.cop, h.hop, h.new, h.byt, h.kno, h.exl, fun i' hi' => ?_, h.hlt, h.nlt, h.vcp, h.szl⟩
  show _ = nI (u1 S.rf i t i')
  by_cases e : i' = i
  · rw [e, u1_at, wI_y]
  · rw [u1_ne e, wI_n (by omega)]; exact h.ref _ hi'
theorem M_at {p : Nat} : f_M_at (nI i) (nI l) (nI p) s = mm_ri (nI (64 * i + 4 * l + p)) s := by
  unfold f_M_at; congr 1; simp only [qI_lit, qI_mul, qI_add]
theorem M_hear (h : QS s sz S) (hi : i < 12) (hk : k < 64) {t : Nat} (ht : t < 1000000) : ∃ s', f_M_hear (nI (64 * i + k)) (nI t) s = mm_rv s' ∧ QS s' sz (oHear S i k t) ∧ FrQ s s' := by
  unfold f_M_hear
  have h1 := QS_nw h hi hk ht
  have hh := h.hlt i k
  rw [st_ok (by omega) (by omega), ld_ok (by omega) (by omega), h1.cop i k hi hk]
  show ∃ s', (if bI (S.cp i k) = 0 then _ else _) = _ ∧ _
  cases hc : S.cp i k with
  | false =>
    rw [if_pos (by decide)]
    refine ⟨_, rfl, ?_, FrQ.wI (by omega)⟩
    have : oHear S i k t = (mkSto S.cp S.vb S.hp (u2 S.nw i k t) S.kn S.bt S.held S.ea S.rf) := by unfold oHear; rw [hc, u2_same (by rw [hc]; rfl)]
    rw [this]; exact h1
  | true =>
    rw [if_neg (by decide), ld_ok (by omega) (by omega), h1.hop i k hi hk (h.vcp i k hc)]
    show ∃ s', (if nI t ≤ nI (S.hp i k) then _ else _) = _ ∧ _
    by_cases hle : t ≤ S.hp i k
    · rw [if_pos (by simp (disch := omega) only [qI_lit, qI_m1, qI_add, qI_mul, qI_le, qI_lt, qI_inj, qI_ne_m, m_ne_nI, m_lt_nI, m_le_nI, qI_lt_m, qI_le_m, qI_sub, qI_div, qI_rem, bI_0, bI_1]; exact hle)]
      refine ⟨_, rfl, ?_, FrQ.wI (by omega)⟩
      have : oHear S i k t = (mkSto S.cp S.vb S.hp (u2 S.nw i k t) S.kn S.bt S.held S.ea S.rf) := by unfold oHear; rw [hc, u2_same (by rw [hc]; simp [hle])]
      rw [this]; exact h1
    · rw [if_neg (by simp (disch := omega) only [qI_lit, qI_m1, qI_add, qI_mul, qI_le, qI_lt, qI_inj, qI_ne_m, m_ne_nI, m_lt_nI, m_le_nI, qI_lt_m, qI_le_m, qI_sub, qI_div, qI_rem, bI_0, bI_1]; exact hle), show (0 : Int32) = bI false from rfl, sz_okb (by omega) (by omega)]
      refine ⟨_, rfl, ?_, (FrQ.wI (by omega)).tr (FrQ.wI (by omega))⟩
      have : oHear S i k t = (mkSto (u2 S.cp i k false) S.vb S.hp (u2 S.nw i k t) S.kn S.bt S.held S.ea S.rf) := by unfold oHear; rw [hc]; simp [hle]
      rw [this]; exact QS_cp h1 hi hk (fun h => nomatch h)
theorem M_learn_lp (hi : i < 12) (hl : l < 16) {kk : Mem → RR} : ∀ (m n p : Nat) (s : Mem) (S : Sto), QS s sz S → p + m = 4 → m < n → ∃ s', lp_M_learn_19 (nI i) (nI l) kk n (nI p) s = kk s' ∧ QS s' sz (mkSto (fun i' k' => if i' = i ∧ 4 * l + p ≤ k' ∧ k' < 4 * l + 4 then false else S.cp i' k') S.vb S.hp S.nw S.kn S.bt S.held S.ea S.rf) ∧ FrQ s s' := by
  intro m
  induction m with
  | zero =>
    intro n p s S h hp hn
    obtain ⟨n, rfl⟩ : ∃ n', n = n' + 1 := ⟨n - 1, by omega⟩
    unfold lp_M_learn_19
    rw [if_pos (by simp (disch := omega) only [qI_lit, qI_m1, qI_add, qI_mul, qI_le, qI_lt, qI_inj, qI_ne_m, m_ne_nI, m_lt_nI, m_le_nI, qI_lt_m, qI_le_m, qI_sub, qI_div, qI_rem, bI_0, bI_1]; omega)]
    refine ⟨s, rfl, ?_, FrQ.rf⟩
    have : (fun i' k' => if i' = i ∧ 4 * l + p ≤ k' ∧ k' < 4 * l + 4 then false else S.cp i' k') = S.cp := by
      funext a b; rw [if_neg (by omega)]
    rw [this]; exact h
  | succ m ih =>
    intro n p s S h hp hn
    obtain ⟨n, rfl⟩ : ∃ n', n = n' + 1 := ⟨n - 1, by omega⟩
    unfold lp_M_learn_19
    have e2 : nI p + 1 = nI (p + 1) := by simp (disch := omega) only [qI_lit, qI_m1, qI_add, qI_mul, qI_le, qI_lt, qI_inj, qI_ne_m, m_ne_nI, m_lt_nI, m_le_nI, qI_lt_m, qI_le_m, qI_sub, qI_div, qI_rem, bI_0, bI_1]
    rw [if_neg (by simp (disch := omega) only [qI_lit, qI_m1, qI_add, qI_mul, qI_le, qI_lt, qI_inj, qI_ne_m, m_ne_nI, m_lt_nI, m_le_nI, qI_lt_m, qI_le_m, qI_sub, qI_div, qI_rem, bI_0, bI_1]; omega), M_at, cI_ok, show (0 : Int32) = bI false from rfl, sz_okb (by omega) (by omega), e2, show 64 * i + 4 * l + p = 64 * i + (4 * l + p) by omega]
    obtain ⟨s2, e3, h2, f2⟩ := ih n (p + 1) _ _ (QS_cp (k := 4 * l + p) (b := false) h hi (by omega) (fun h => nomatch h)) (by omega) (by omega)
    refine ⟨s2, e3, ?_, (FrQ.wI (by omega)).tr f2⟩
    have : (fun i' k' => if i' = i ∧ 4 * l + p ≤ k' ∧ k' < 4 * l + 4 then false else S.cp i' k') = (fun i' k' => if i' = i ∧ 4 * l + (p + 1) ≤ k' ∧ k' < 4 * l + 4 then false else u2 S.cp i (4 * l + p) false i' k') := by
      funext a b; unfold u2
      by_cases c1 : a = i
      · by_cases c2 : b = 4 * l + p
        · rw [if_pos (by omega), if_neg (by omega), if_pos (by omega)]
        · by_cases c3 : 4 * l + (p + 1) ≤ b ∧ b < 4 * l + 4
          · rw [if_pos (by omega), if_pos (by omega)]
          · rw [if_neg (by omega), if_neg (by omega), if_neg (by omega)]
      · rw [if_neg (by omega), if_neg (by omega), if_neg (by omega)]
    rw [this]; exact h2
theorem free4_eq (S : Sto) (i l : Nat) : oFree4 S i l = (mkSto (fun i' k' => if i' = i ∧ 4 * l + 0 ≤ k' ∧ k' < 4 * l + 4 then false else S.cp i' k') S.vb S.hp S.nw S.kn S.bt S.held S.ea S.rf) := by
  unfold oFree4
  congr 1
  funext a b
  by_cases c1 : a = i ∧ b / 4 = l
  · rw [if_pos c1, if_pos (by omega)]
  · rw [if_neg c1, if_neg (by omega)]
theorem M_learn (h : QS s sz S) (hi : i < 12) (hl : l < 16) {w : Nat} (hw : w < 100) : ∃ s', f_M_learn (nI i) (nI l) (nI w) s = mm_rv s' ∧ QS s' sz (oLearn S i l w) ∧ FrQ s s' := by
  unfold f_M_learn
  have h1 := QS_kn (t := w) h hi hl
  have e0 : 16 * nI i + nI l = nI (16 * i + l) := by simp only [qI_lit, qI_mul, qI_add]
  rw [e0, st_ok (by omega) (by omega)]
  unfold oLearn
  by_cases e : w = 0
  · rw [if_pos (by simp (disch := omega) only [qI_lit, qI_m1, qI_add, qI_mul, qI_le, qI_lt, qI_inj, qI_ne_m, m_ne_nI, m_lt_nI, m_le_nI, qI_lt_m, qI_le_m, qI_sub, qI_div, qI_rem, bI_0, bI_1]; exact e), if_pos e]
    exact ⟨_, rfl, h1, FrQ.wI (by omega)⟩
  · rw [if_neg (by simp (disch := omega) only [qI_lit, qI_m1, qI_add, qI_mul, qI_le, qI_lt, qI_inj, qI_ne_m, m_ne_nI, m_lt_nI, m_le_nI, qI_lt_m, qI_le_m, qI_sub, qI_div, qI_rem, bI_0, bI_1]; exact e), if_neg e]
    obtain ⟨s', e1, h2, f2⟩ := M_learn_lp (sz := sz) (kk := fun s19 => mm_rv s19) hi hl 4 FU 0 _ _ h1 rfl (by decide)
    refine ⟨s', e1, ?_, (FrQ.wI (by omega)).tr f2⟩
    rw [free4_eq]; exact h2
theorem M_room_lp (h : QS s sz S) (hi : i < 12) {kk : Int32 → Mem → RR} : ∀ (m n j c : Nat), j + m = 64 → m < n → cN (fun q => S.cp i (j + q)) m ≤ c → lp_M_room_19 (nI i) kk n (nI (c - 0)) (nI (64 * i + j)) s = kk (nI (c - cN (fun q => S.cp i (j + q)) m)) s := by
  intro m
  induction m with
  | zero =>
    intro n j c hp hn hc
    obtain ⟨n, rfl⟩ : ∃ n', n = n' + 1 := ⟨n - 1, by omega⟩
    unfold lp_M_room_19
    rw [if_pos (by simp (disch := omega) only [qI_lit, qI_m1, qI_add, qI_mul, qI_le, qI_lt, qI_inj, qI_ne_m, m_ne_nI, m_lt_nI, m_le_nI, qI_lt_m, qI_le_m, qI_sub, qI_div, qI_rem, bI_0, bI_1]; omega)]; rfl
  | succ m ih =>
    intro n j c hp hn hc
    obtain ⟨n, rfl⟩ : ∃ n', n = n' + 1 := ⟨n - 1, by omega⟩
    unfold lp_M_room_19
    have e1 : nI (64 * i + j) + 1 = nI (64 * i + (j + 1)) := by simp (disch := omega) only [qI_lit, qI_m1, qI_add, qI_mul, qI_le, qI_lt, qI_inj, qI_ne_m, m_ne_nI, m_lt_nI, m_le_nI, qI_lt_m, qI_le_m, qI_sub, qI_div, qI_rem, bI_0, bI_1]; omega
    have e3 : ∀ m, cN (fun q => S.cp i (j + q)) (m + 1) = (if S.cp i j then 1 else 0) + cN (fun q => S.cp i (j + 1 + q)) m := by
      intro m
      induction m with
      | zero => simp [cN]
      | succ m ih => rw [cN, ih]; simp only [cN]; rw [show j + (m + 1) = j + 1 + m by omega]; omega
    rw [e3] at hc
    rw [if_neg (by simp (disch := omega) only [qI_lit, qI_m1, qI_add, qI_mul, qI_le, qI_lt, qI_inj, qI_ne_m, m_ne_nI, m_lt_nI, m_le_nI, qI_lt_m, qI_le_m, qI_sub, qI_div, qI_rem, bI_0, bI_1]; omega), ld_ok (by omega) (by omega), h.cop i j hi (by omega), e1, e3]
    cases hcp : S.cp i j with
    | false =>
      rw [hcp] at hc
      rw [if_pos (by decide), ih n (j + 1) c (by omega) (by omega) (by simpa using hc)]; simp
    | true =>
      rw [hcp] at hc
      simp only [if_true] at hc
      have e4 : nI (c - 0) + -1 = nI (c - 1 - 0) := by
        rw [show nI (c - 0) = nI (c - 1) + 1 by simp only [qI_lit, qI_add]; congr 1; omega, Int32.add_assoc, show (1 : Int32) + -1 = 0 by decide, Int32.add_zero]; rfl
      rw [if_neg (by decide), e4, ih n (j + 1) (c - 1) (by omega) (by omega) (by omega)]; simp only [if_true]; congr 2; omega
theorem M_room (h : QS s sz S) (hi : i < 12) (hc : cN (S.cp i) 64 ≤ capa i) : f_M_room (nI i) s = mm_ri (nI (capa i - cN (S.cp i) 64)) s := by
  unfold f_M_room; simp only [mm_jn]
  have e0 : 64 * nI i = nI (64 * i + 0) := by simp only [qI_lit, qI_mul]; rfl
  have e1 : cN (fun q => S.cp i (0 + q)) 64 = cN (S.cp i) 64 := by simp only [Nat.zero_add]
  by_cases h8 : 8 ≤ i
  · rw [if_pos (by simp (disch := omega) only [qI_lit, qI_m1, qI_add, qI_mul, qI_le, qI_lt, qI_inj, qI_ne_m, m_ne_nI, m_lt_nI, m_le_nI, qI_lt_m, qI_le_m, qI_sub, qI_div, qI_rem, bI_0, bI_1]; exact h8)]
    show lp_M_room_19 (nI i) _ FU 10 (64 * nI i) s = _
    have hcp : capa i = 10 := by unfold capa; rw [if_neg (by omega)]
    rw [hcp] at hc ⊢
    rw [e0, show (10 : Int32) = nI (10 - 0) from rfl, M_room_lp h hi 64 FU 0 10 rfl (by decide) (by rw [e1]; exact hc), e1]
  · rw [if_neg (by simp (disch := omega) only [qI_lit, qI_m1, qI_add, qI_mul, qI_le, qI_lt, qI_inj, qI_ne_m, m_ne_nI, m_lt_nI, m_le_nI, qI_lt_m, qI_le_m, qI_sub, qI_div, qI_rem, bI_0, bI_1]; exact h8)]
    show lp_M_room_19 (nI i) _ FU 24 (64 * nI i) s = _
    have hcp : capa i = 24 := by unfold capa; rw [if_pos (by omega)]
    rw [hcp] at hc ⊢
    rw [e0, show (24 : Int32) = nI (24 - 0) from rfl, M_room_lp h hi 64 FU 0 24 rfl (by decide) (by rw [e1]; exact hc), e1]
end

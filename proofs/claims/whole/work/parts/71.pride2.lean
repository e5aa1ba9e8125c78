abbrev inW (first last t : Nat) : Prop := first ≤ t ∧ t ≤ last
def wkF (L : List Hlt) (base first last : Nat) (st : Rid) : Rid := L.foldl (fun st x => if inW first last (base + x.2.2) then see (base + x.2.2) st x else st) st
def stG (T : List Hlt) (first last : Nat) (st : Rid) (t : Nat) : Rid := if inW first last t then stepT T t st else st
theorem foldl_id {α β : Type} (l : List β) (st : α) : l.foldl (fun st _ => st) st = st := by
  induction l with
  | nil => rfl
  | cons _ _ ih => exact ih
theorem foldl_to {α β : Type} {f g : α → β → α} {l : List β} (h : ∀ x ∈ l, ∀ st, f st x = g st x) (st : α) : l.foldl f st = l.foldl g st := by
  induction l generalizing st with
  | nil => rfl
  | cons x l ih => rw [List.foldl_cons, List.foldl_cons, h x List.mem_cons_self, ih (fun y hy => h y (List.mem_cons_of_mem _ hy))]
theorem wk_run {L T : List Hlt} (hs : L.Pairwise (fun x y => x.2.2 ≤ y.2.2)) (hp : L.Perm T) (ok : TabOk T) {base first last : Nat} (hb : base % 10080 = 0) (hbl : base + 10081 < LATE) (st : Rid) :
    wkF L base first last st = (List.range 10080).foldl (fun st o => stG T first last st (base + o)) st := by
  have okL : TabOk L := ⟨fun x hx => ok.1 x (hp.mem_iff.mp hx), fun x hx y hy => ok.2.1 x (hp.mem_iff.mp hx) y (hp.mem_iff.mp hy), by rw [hp.length_eq]; exact ok.2.2⟩
  have hall : L.filter (fun x => decide (x.2.2 < 10080)) = L := by
    rw [List.filter_eq_self]; intro x hx; have := okL.1 x hx; simp; omega
  unfold wkF
  conv => lhs; rw [← hall]
  rw [filt_all hs]
  refine foldl_to (fun o ho st => ?_) st
  have ho := List.mem_range.mp ho
  unfold stG
  have hm : (base + o) % 10080 = o := by omega
  have e : ∀ x ∈ atM L o, ∀ st : Rid, (if inW first last (base + x.2.2) then see (base + x.2.2) st x else st) = (if inW first last (base + o) then see (base + o) st x else st) := by
    intro x hx st
    have hx2 := (List.mem_filter.mp hx).2
    have hx3 : x.2.2 = o := by simpa using hx2
    rw [hx3]
  rw [foldl_to e]
  by_cases hw : inW first last (base + o)
  · simp only [if_pos hw]
    rw [← stepT_perm hp okL (by omega)]
    unfold stepT; rw [hm]
  · simp only [if_neg hw]; exact foldl_id _ _
theorem run_win {T : List Hlt} {week first last : Nat} (h1 : week ≤ first) (h2 : first ≤ last + 1) (st : Rid) : ∀ N, (List.range N).foldl (fun st o => stG T first last st (week + o)) st = runT T first st (min (week + N) (last + 1) - first) := by
  intro N
  induction N with
  | zero => rw [show min (week + 0) (last + 1) - first = 0 by omega]; rfl
  | succ N ih =>
    rw [List.range_succ, List.foldl_append, ih]
    show stG T first last _ (week + N) = _
    unfold stG
    by_cases hw : inW first last (week + N)
    · obtain ⟨a, b⟩ := hw
      rw [if_pos ⟨a, b⟩, show min (week + (N + 1)) (last + 1) - first = (week + N - first) + 1 by omega, show min (week + N) (last + 1) - first = week + N - first by omega]
      show _ = stepT T (first + (week + N - first)) _
      rw [show first + (week + N - first) = week + N by omega]
    · rw [if_neg hw]
      congr 1
      unfold inW at hw
      omega
theorem fold3 {α : Type} (G : α → Nat → α) (st : α) {week W W2 W3 : Nat} (h2 : W2 = W + W) (h3 : W3 = W + (W + W)) : (List.range W).foldl (fun st o => G st (week + W2 + o)) ((List.range W).foldl (fun st o => G st (week + W + o)) ((List.range W).foldl (fun st o => G st (week + o)) st)) = (List.range W3).foldl (fun st o => G st (week + o)) st := by
  subst h2 h3
  rw [List.range_add, List.foldl_append, List.range_add, List.foldl_map, List.foldl_append, List.foldl_map]
  simp only [Nat.add_assoc]
set_option maxRecDepth 1000000 in
theorem wk3 {L T : List Hlt} (hs : L.Pairwise (fun x y => x.2.2 ≤ y.2.2)) (hp : L.Perm T) (ok : TabOk T) {week first last : Nat} (hb : week % 10080 = 0) (hbl : week + 30241 < LATE) (h1 : week ≤ first) (h2 : first ≤ last + 1) (h3 : last < week + 30240) (st : Rid) :
    wkF L (week + 20160) first last (wkF L (week + 10080) first last (wkF L week first last st)) = runT T first st (last + 1 - first) := by
  have a1 := fun st => wk_run hs hp ok (base := week) (first := first) (last := last) hb (by omega) st
  have a2 := fun st => wk_run hs hp ok (base := week + 10080) (first := first) (last := last) (by omega) (by omega) st
  have a3 := fun st => wk_run hs hp ok (base := week + 20160) (first := first) (last := last) (by omega) (by omega) st
  have h := run_win (T := T) h1 h2 st 30240
  have hmin : min (week + 30240) (last + 1) - first = last + 1 - first := by omega
  have g2 : 20160 = 10080 + 10080 := by omega
  have g3 : 30240 = 10080 + (10080 + 10080) := by omega
  revert a1 a2 a3 h g2 g3 hmin
  generalize 30240 = W3
  generalize 20160 = W2
  generalize 10080 = W
  intro a1 a2 a3 h hmin g2 g3
  rw [a1, a2, a3, fold3 (stG T first last) st g2 g3, h, hmin]
-- the class's rides
def RRd (s : Mem) (i st0 m0 : Nat) (st : Rid) : Prop := (∀ b, b < 4 → s.1 25 i b = bI (st.1 b)) ∧ (∀ k, k < 8 → s.1 24 i k = nI (st.2 k)) ∧ (∀ k, k < 8 → s.1 23 i k = nI (if k = st0 then m0 else if st.2 k = LATE then LATE else st.2 k - 1)) ∧ (∀ k, st.2 k ≤ LATE) ∧ (st0 < 8 → st.2 st0 ≠ LATE) ∧ (m0 < LATE)
theorem RRd.ab {s : Mem} {i st0 m0 : Nat} {st : Rid} (h : RRd s i st0 m0 st) : ∀ b, b < 4 → s.1 25 i b = bI (st.1 b) := h.1
theorem RRd.lv {s : Mem} {i st0 m0 : Nat} {st : Rid} (h : RRd s i st0 m0 st) : ∀ k, k < 8 → s.1 24 i k = nI (st.2 k) := h.2.1
theorem RRd.cm {s : Mem} {i st0 m0 : Nat} {st : Rid} (h : RRd s i st0 m0 st) : ∀ k, k < 8 → s.1 23 i k = nI (if k = st0 then m0 else if st.2 k = LATE then LATE else st.2 k - 1) := h.2.2.1
theorem RRd.le {s : Mem} {i st0 m0 : Nat} {st : Rid} (h : RRd s i st0 m0 st) : ∀ k, st.2 k ≤ LATE := h.2.2.2.1
theorem RRd.s0 {s : Mem} {i st0 m0 : Nat} {st : Rid} (h : RRd s i st0 m0 st) : st0 < 8 → st.2 st0 ≠ LATE := h.2.2.2.2.1
theorem RRd.m0 {s : Mem} {i st0 m0 : Nat} {st : Rid} (h : RRd s i st0 m0 st) : m0 < LATE := h.2.2.2.2.2
def FrR (i : Nat) (s s' : Mem) : Prop := (∀ F, (F < 23 ∨ 25 < F) → s'.1 F = s.1 F) ∧ (∀ F j, j ≠ i → s'.1 F j = s.1 F j) ∧ s'.2 = s.2
theorem FrR.rf {i : Nat} {s : Mem} : FrR i s s := ⟨fun _ _ => rfl, fun _ _ _ => rfl, rfl⟩
theorem FrR.tr {i : Nat} {a b c : Mem} (h : FrR i a b) (g : FrR i b c) : FrR i a c := ⟨fun F hF => (g.1 F hF).trans (h.1 F hF), fun F j hj => (g.2.1 F j hj).trans (h.2.1 F j hj), g.2.2.trans h.2.2⟩
theorem FrR.wI {s : Mem} {F i k : Nat} {v : Int32} (h : 23 ≤ F ∧ F ≤ 25) : FrR i s (mm_wI s F i k v) := ⟨fun F' hF => wI_ne (by omega), fun F' j hj => funext fun k' => wI_n (fun h9 => hj h9.2.1), rfl⟩
theorem R_seeStop {s : Mem} {i st0 m0 : Nat} {st : Rid} (h : RRd s i st0 m0 st) {x : Hlt} {t : Nat} (ht : t + 1 < LATE) (hb : x.1 - 8 < 4) (hk : x.2.1 < 8) : ∃ s', f_R_seeStop i (nI (x.1 - 8)) (nI x.2.1) (nI t) s = mm_rv s' ∧ RRd s' i st0 m0 (see t st x) ∧ FrR i s s' := by
  have hL : LATE = 2147483647 := rfl
  have hle := h.le x.2.1
  unfold f_R_seeStop
  simp only [mm_jn]
  rw [ld_ok hb (by omega), h.ab _ hb]
  unfold see
  cases hab : st.1 (x.1 - 8) with
  | false =>
    rw [if_pos (by decide), ld_ok hk (by omega), h.lv _ hk]
    simp only [Bool.false_eq_true, if_false]
    by_cases hc : st.2 x.2.1 ≤ t
    · rw [if_neg (by simp (disch := omega) only [qI_lit, qI_m1, qI_add, qI_mul, qI_le, qI_lt, qI_inj, qI_ne_m, m_ne_nI, m_lt_nI, m_le_nI, qI_lt_m, qI_le_m, qI_sub, qI_div, qI_rem, bI_0, bI_1]; omega), if_pos hc, show (1 : Int32) = bI true from rfl, sz_okb hb (by omega)]
      refine ⟨_, rfl, ⟨fun b hb' => ?_, h.lv, h.cm, h.le, h.s0, h.m0⟩, FrR.wI (by omega)⟩
      show _ = bI (u1 st.1 (x.1 - 8) true b)
      by_cases e : b = x.1 - 8
      · rw [e, wI_y, u1_at]
      · rw [wI_n (by omega), u1_ne e]; exact h.ab b hb'
    · rw [if_pos (by simp (disch := omega) only [qI_lit, qI_m1, qI_add, qI_mul, qI_le, qI_lt, qI_inj, qI_ne_m, m_ne_nI, m_lt_nI, m_le_nI, qI_lt_m, qI_le_m, qI_sub, qI_div, qI_rem, bI_0, bI_1]; omega), if_neg hc]
      exact ⟨s, rfl, h, FrR.rf⟩
  | true =>
    rw [if_neg (by decide), ld_ok hk (by omega), h.cm _ hk]
    simp only [if_true]
    by_cases hc : st.2 x.2.1 = LATE
    · have hne : x.2.1 ≠ st0 := fun e => h.s0 (by omega) (by rw [← e]; exact hc)
      rw [if_neg hne, if_pos hc, if_pos hc, if_neg (by show ¬ ¬ nI LATE = 2147483647; exact fun h9 => h9 rfl), st_ok hk (by omega), st_ok hk (by omega), ld_ok hk (by omega), wI_y, show nI t + 1 = nI (t + 1) by simp (disch := omega) only [qI_lit, qI_m1, qI_add, qI_mul, qI_le, qI_lt, qI_inj, qI_ne_m, m_ne_nI, m_lt_nI, m_le_nI, qI_lt_m, qI_le_m, qI_sub, qI_div, qI_rem, bI_0, bI_1], if_pos (by simp (disch := omega) only [qI_lit, qI_m1, qI_add, qI_mul, qI_le, qI_lt, qI_inj, qI_ne_m, m_ne_nI, m_lt_nI, m_le_nI, qI_lt_m, qI_le_m, qI_sub, qI_div, qI_rem, bI_0, bI_1]; omega)]
      refine ⟨_, rfl, ⟨h.ab, fun k hk' => ?_, fun k hk' => ?_, fun k => ?_, fun h9 => ?_, h.m0⟩, (FrR.wI (by omega)).tr (FrR.wI (by omega))⟩
      · show _ = nI (u1 st.2 x.2.1 (t + 1) k)
        by_cases e : k = x.2.1
        · rw [e, wI_y, u1_at]
        · rw [wI_n (by omega), wI_ne (by decide), u1_ne e]; exact h.lv k hk'
      · show _ = nI (if k = st0 then m0 else if u1 st.2 x.2.1 (t + 1) k = LATE then LATE else u1 st.2 x.2.1 (t + 1) k - 1)
        rw [wI_ne (by decide)]
        by_cases e : k = x.2.1
        · rw [e, wI_y, u1_at, if_neg hne, if_neg (by omega)]; rfl
        · rw [wI_n (by omega), u1_ne e]; exact h.cm k hk'
      · show u1 st.2 x.2.1 (t + 1) k ≤ LATE
        by_cases e : k = x.2.1
        · rw [e, u1_at]; omega
        · rw [u1_ne e]; exact h.le k
      · show u1 st.2 x.2.1 (t + 1) st0 ≠ LATE
        rw [u1_ne (Ne.symm hne)]; exact h.s0 h9
    · have hv : ¬ nI (if x.2.1 = st0 then m0 else if st.2 x.2.1 = LATE then LATE else st.2 x.2.1 - 1) = 2147483647 := by
        have hm := h.m0
        rw [if_neg hc, show (2147483647 : Int32) = nI 2147483647 from rfl]
        split
        · rw [qI_inj (by omega) (by omega)]; omega
        · rw [qI_inj (by omega) (by omega)]; omega
      rw [if_pos hv, if_neg hc, ld_ok hk (by omega), h.lv _ hk]
      by_cases hc2 : st.2 x.2.1 ≤ t
      · rw [if_neg (by simp (disch := omega) only [qI_lit, qI_m1, qI_add, qI_mul, qI_le, qI_lt, qI_inj, qI_ne_m, m_ne_nI, m_lt_nI, m_le_nI, qI_lt_m, qI_le_m, qI_sub, qI_div, qI_rem, bI_0, bI_1]; omega), show (1 : Int32) = bI true from rfl, sz_okb hb (by omega)]
        refine ⟨_, rfl, ⟨fun b hb' => ?_, h.lv, h.cm, h.le, h.s0, h.m0⟩, FrR.wI (by omega)⟩
        by_cases e : b = x.1 - 8
        · rw [e, wI_y]; show _ = bI (st.1 (x.1 - 8)); rw [hab]
        · rw [wI_n (by omega)]; exact h.ab b hb'
      · rw [if_pos (by simp (disch := omega) only [qI_lit, qI_m1, qI_add, qI_mul, qI_le, qI_lt, qI_inj, qI_ne_m, m_ne_nI, m_lt_nI, m_le_nI, qI_lt_m, qI_le_m, qI_sub, qI_div, qI_rem, bI_0, bI_1]; omega)]
        exact ⟨s, rfl, h, FrR.rf⟩

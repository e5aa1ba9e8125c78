-- rides by a timetable: times, buses, kiosks
abbrev Hlt : Type := Nat × Nat × Nat
abbrev Rid : Type := (Nat → Bool) × (Nat → Nat)
def LATE : Nat := 2147483647
def see (t : Nat) (st : Rid) (x : Hlt) : Rid :=
  if st.1 (x.1 - 8) then (st.1, if st.2 x.2.1 = LATE then u1 st.2 x.2.1 (t + 1) else st.2)
  else if st.2 x.2.1 ≤ t then (u1 st.1 (x.1 - 8) true, st.2) else st
theorem u1_comm {α : Type} {f : Nat → α} {i j : Nat} {v w : α} (h : i ≠ j) : u1 (u1 f i v) j w = u1 (u1 f j w) i v := by
  funext x; unfold u1
  by_cases e : x = i
  · rw [if_neg (by omega), if_pos e, if_pos e]
  · by_cases e2 : x = j
    · rw [if_pos e2, if_neg (by omega), if_pos e2]
    · rw [if_neg e2, if_neg e, if_neg e, if_neg e2]
theorem see_comm {t : Nat} (ht : t + 1 < LATE) {x y : Hlt} (h : x.1 - 8 ≠ y.1 - 8) (st : Rid) : see t (see t st x) y = see t (see t st y) x := by
  obtain ⟨ab, cm⟩ := st
  obtain ⟨b, k, m⟩ := x
  obtain ⟨b', k', m'⟩ := y
  have h : b - 8 ≠ b' - 8 := h
  have hL : LATE = 2147483647 := rfl
  have f1 : ¬ t + 1 ≤ t := by omega
  have f2 : ¬ LATE ≤ t := by omega
  unfold see
  simp only
  by_cases c1 : ab (b - 8) = true
  · rw [if_pos c1]
    by_cases c2 : ab (b' - 8) = true
    · rw [if_pos c2]
      simp only [if_pos c1, if_pos c2]
      by_cases d1 : cm k = LATE
      · rw [if_pos d1]
        by_cases d2 : cm k' = LATE
        · rw [if_pos d2]
          by_cases e : k = k'
          · subst e; rw [u1_at, if_neg (by omega)]
          · rw [u1_ne (by omega), u1_ne (by omega), if_pos d1, if_pos d2, u1_comm e]
        · rw [if_neg d2, if_pos d1]
          have e : k' ≠ k := fun e => d2 (by rw [e]; exact d1)
          rw [u1_ne e, if_neg d2]
      · rw [if_neg d1]
        by_cases d2 : cm k' = LATE
        · rw [if_pos d2]
          have e : k ≠ k' := fun e => d1 (by rw [e]; exact d2)
          rw [u1_ne e, if_neg d1]
        · rw [if_neg d2, if_neg d1]
    · simp only [if_neg c2]
      by_cases d1 : cm k = LATE
      · rw [if_pos d1]
        by_cases e : k' = k
        · subst e; simp [c1, c2, d1, u1_at, f1, f2]
        · rw [u1_ne e]
          by_cases d2 : cm k' ≤ t
          · rw [if_pos d2, if_pos d2]; simp only [u1_ne h, if_pos c1, if_pos d1]
          · rw [if_neg d2, if_neg d2]; simp only [if_pos c1, if_pos d1]
      · rw [if_neg d1]
        by_cases d2 : cm k' ≤ t
        · rw [if_pos d2]; simp only [u1_ne h, if_pos c1, if_neg d1]
        · rw [if_neg d2]; simp only [if_pos c1, if_neg d1]
  · rw [if_neg c1]
    by_cases c2 : ab (b' - 8) = true
    · simp only [if_pos c2]
      by_cases d2 : cm k' = LATE
      · rw [if_pos d2]
        by_cases e : k = k'
        · subst e; simp [c1, c2, d2, u1_at, f1, f2]
        · by_cases d1 : cm k ≤ t
          · rw [if_pos d1]; simp only [u1_ne (Ne.symm h), if_pos c2, if_pos d2, if_neg c1, u1_ne e, if_pos d1]
          · rw [if_neg d1]; simp only [if_pos c2, if_pos d2, if_neg c1, u1_ne e, if_neg d1]
      · rw [if_neg d2]
        by_cases d1 : cm k ≤ t
        · rw [if_pos d1]; simp only [u1_ne (Ne.symm h), if_pos c2, if_neg d2, if_neg c1, if_pos d1]
        · rw [if_neg d1]; simp only [if_pos c2, if_neg d2, if_neg c1, if_neg d1]
    · rw [if_neg c2]
      by_cases d1 : cm k ≤ t
      · rw [if_pos d1]
        by_cases d2 : cm k' ≤ t
        · rw [if_pos d2]; simp only [u1_ne (Ne.symm h), u1_ne h, if_neg c1, if_neg c2, if_pos d1, if_pos d2, u1_comm h]
        · rw [if_neg d2]; simp only [u1_ne (Ne.symm h), if_neg c1, if_neg c2, if_pos d1, if_neg d2]
      · rw [if_neg d1]
        by_cases d2 : cm k' ≤ t
        · rw [if_pos d2]; simp only [u1_ne h, if_neg c1, if_neg c2, if_neg d1, if_pos d2]
        · rw [if_neg d2]; simp only [if_neg c1, if_neg c2, if_neg d1, if_neg d2]
def atM (T : List Hlt) (m : Nat) : List Hlt := T.filter (fun x => x.2.2 == m)
def stepT (T : List Hlt) (t : Nat) (st : Rid) : Rid := (atM T (t % 10080)).foldl (see t) st
def runT (T : List Hlt) (first : Nat) (st : Rid) : Nat → Rid
  | 0 => st
  | j + 1 => stepT T (first + j) (runT T first st j)
/-- a timetable: no two stops of a bus at one minute -/
def TabOk (T : List Hlt) : Prop := (∀ x ∈ T, 8 ≤ x.1 ∧ x.1 < 12 ∧ x.2.1 < 8 ∧ x.2.2 < 10080) ∧ (∀ x ∈ T, ∀ y ∈ T, x.1 = y.1 → x.2.2 = y.2.2 → x = y) ∧ T.length ≤ 24
theorem stepT_perm {T T' : List Hlt} (h : T.Perm T') (ok : TabOk T) {t : Nat} (ht : t + 1 < LATE) (st : Rid) : stepT T t st = stepT T' t st := by
  unfold stepT atM
  have hp := h.filter (fun x => x.2.2 == t % 10080)
  refine hp.foldl_eq' (fun x hx y hy z => ?_) st
  obtain ⟨hx1, hx2⟩ := List.mem_filter.mp hx
  obtain ⟨hy1, hy2⟩ := List.mem_filter.mp hy
  by_cases e : x = y
  · rw [e]
  · have hb : x.1 ≠ y.1 := by
      intro hb
      have hm : x.2.2 = y.2.2 := by
        have a := of_decide_eq_true hx2; have b := of_decide_eq_true hy2
        exact a.trans b.symm
      exact e (ok.2.1 x hx1 y hy1 hb hm)
    have h1 := ok.1 x hx1
    have h2 := ok.1 y hy1
    exact see_comm ht (by omega) z

-- a sorted table, gone through week by week
theorem filt_split {L : List Hlt} (hs : L.Pairwise (fun x y => x.2.2 ≤ y.2.2)) (N : Nat) : L.filter (fun x => decide (x.2.2 < N + 1)) = L.filter (fun x => decide (x.2.2 < N)) ++ atM L N := by
  induction L with
  | nil => rfl
  | cons x L ih =>
    rw [List.pairwise_cons] at hs
    have ih := ih hs.2
    unfold atM at ih ⊢
    simp only [List.filter_cons]
    by_cases c1 : x.2.2 < N
    · rw [if_pos (by simpa using (show x.2.2 < N + 1 by omega)), if_pos (by simpa using c1), if_neg (by simp; omega), ih]; rfl
    · by_cases c2 : x.2.2 = N
      · have hnil : L.filter (fun x => decide (x.2.2 < N)) = [] := by
          rw [List.filter_eq_nil_iff]; intro y hy; have := hs.1 y hy; simp; omega
        rw [if_pos (by simp; omega), if_neg (by simpa using c1), if_pos (by simpa using c2), ih, hnil]; rfl
      · rw [if_neg (by simp; omega), if_neg (by simpa using c1), if_neg (by simpa using c2), ih]
theorem filt_all {L : List Hlt} (hs : L.Pairwise (fun x y => x.2.2 ≤ y.2.2)) (N : Nat) {α : Type} (f : α → Hlt → α) (st : α) : (L.filter (fun x => decide (x.2.2 < N))).foldl f st = (List.range N).foldl (fun st o => (atM L o).foldl f st) st := by
  induction N with
  | zero => rw [List.filter_eq_nil_iff.mpr (by simp)]; rfl
  | succ N ih => rw [filt_split hs, List.foldl_append, ih, List.range_succ, List.foldl_append]; rfl

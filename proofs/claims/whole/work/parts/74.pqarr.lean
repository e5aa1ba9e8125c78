theorem see_keep {t : Nat} {st : Rid} {x : Hlt} {g : Nat} (h : st.2 g ≠ LATE) : (see t st x).2 g = st.2 g := by
  unfold see
  split
  · show (if st.2 x.2.1 = LATE then u1 st.2 x.2.1 (t + 1) else st.2) g = st.2 g
    split
    · next e => rw [u1_ne (fun e2 => h (by rw [e2]; exact e))]
    · rfl
  · split <;> rfl
theorem fold_keep {t : Nat} {g : Nat} (l : List Hlt) : ∀ st : Rid, st.2 g ≠ LATE → (l.foldl (see t) st).2 g = st.2 g := by
  induction l with
  | nil => intro st _; rfl
  | cons x l ih => intro st h; rw [List.foldl_cons, ih _ (by rw [see_keep h]; exact h), see_keep h]
theorem run_keep {T : List Hlt} {first : Nat} {st : Rid} {g a b : Nat} (hab : a ≤ b) (h : (runT T first st a).2 g ≠ LATE) : (runT T first st b).2 g = (runT T first st a).2 g := by
  induction b with
  | zero => rw [show a = 0 by omega]
  | succ b ih =>
    by_cases e : a = b + 1
    · rw [e]
    · have := ih (by omega)
      show (stepT T (first + b) (runT T first st b)).2 g = _
      unfold stepT
      rw [fold_keep _ _ (by rw [this]; exact h), this]
theorem run_skip {T : List Hlt} {first : Nat} {st : Rid} {a b : Nat} (hab : a ≤ b) (h : ∀ u, first + a ≤ u → u < first + b → atM T (u % 10080) = []) : runT T first st b = runT T first st a := by
  induction b with
  | zero => rw [show a = 0 by omega]
  | succ b ih =>
    by_cases e : a = b + 1
    · rw [e]
    · show stepT T (first + b) (runT T first st b) = _
      unfold stepT
      rw [h (first + b) (by omega) (by omega)]
      exact ih (by omega) (fun u h1 h2 => h u h1 (by omega))
def bndC (st : Rid) (t : Nat) : Prop := ∀ k, st.2 k = LATE ∨ st.2 k ≤ t
theorem see_bnd {t : Nat} {st : Rid} {x : Hlt} (h : bndC st (t + 1)) : bndC (see t st x) (t + 1) := by
  intro k
  unfold see
  split
  · show (if st.2 x.2.1 = LATE then u1 st.2 x.2.1 (t + 1) else st.2) k = LATE ∨ (if st.2 x.2.1 = LATE then u1 st.2 x.2.1 (t + 1) else st.2) k ≤ t + 1
    split
    · by_cases e : k = x.2.1
      · rw [e, u1_at]; exact .inr (Nat.le_refl _)
      · rw [u1_ne e]; exact h k
    · exact h k
  · split
    · exact h k
    · exact h k
theorem run_bnd {T : List Hlt} {first : Nat} {st : Rid} (h : bndC st first) : ∀ j, bndC (runT T first st j) (first + j) := by
  intro j
  induction j with
  | zero => exact h
  | succ j ih =>
    show bndC ((atM T ((first + j) % 10080)).foldl (see (first + j)) (runT T first st j)) (first + j + 1)
    have h0 : bndC (runT T first st j) (first + j + 1) := fun k => (ih k).imp id (fun h => by omega)
    generalize runT T first st j = st' at h0
    generalize atM T ((first + j) % 10080) = l
    clear ih
    induction l generalizing st' with
    | nil => exact h0
    | cons x l ih => exact ih _ (see_bnd h0)
-- the next minute with a stop
def wt (t m : Nat) : Nat := t + (m + 10080 - t % 10080) % 10080
def nxF (t : Nat) (best : Nat) (x : Hlt) : Nat := if wt t x.2.2 < best then wt t x.2.2 else best
def nxt (T : List Hlt) (t : Nat) : Nat := T.foldl (nxF t) LATE
theorem wt_spec {t m : Nat} (hm : m < 10080) : t ≤ wt t m ∧ wt t m < t + 10080 ∧ ∀ u, t ≤ u → u < wt t m → u % 10080 ≠ m := by
  unfold wt
  have := Nat.mod_lt t (show 10080 > 0 by decide)
  refine ⟨by omega, by omega, fun u h1 h2 => ?_⟩
  omega
theorem nx_le {t : Nat} (l : List Hlt) : ∀ b, l.foldl (nxF t) b ≤ b ∧ ∀ x ∈ l, l.foldl (nxF t) b ≤ wt t x.2.2 := by
  induction l with
  | nil => exact fun b => ⟨Nat.le_refl _, fun x hx => nomatch hx⟩
  | cons y l ih =>
    intro b
    obtain ⟨h1, h2⟩ := ih (nxF t b y)
    have h3 : nxF t b y ≤ b ∧ nxF t b y ≤ wt t y.2.2 := by unfold nxF; split <;> omega
    refine ⟨Nat.le_trans h1 h3.1, fun x hx => ?_⟩
    rcases List.mem_cons.mp hx with rfl | hx
    · exact Nat.le_trans h1 h3.2
    · exact h2 x hx
theorem nx_ge {t : Nat} (l : List Hlt) (hl : ∀ x ∈ l, x.2.2 < 10080) : ∀ b, t ≤ b → t ≤ l.foldl (nxF t) b := by
  induction l with
  | nil => exact fun b hb => hb
  | cons y l ih =>
    intro b hb
    refine ih (fun x hx => hl x (List.mem_cons_of_mem _ hx)) _ ?_
    have := (wt_spec (t := t) (hl y List.mem_cons_self)).1
    unfold nxF; split <;> omega
theorem nxt_skip {T : List Hlt} (ok : TabOk T) {t u : Nat} (h1 : t ≤ u) (h2 : u < nxt T t) : atM T (u % 10080) = [] := by
  unfold atM
  rw [List.filter_eq_nil_iff]
  intro x hx h
  have hm : x.2.2 = u % 10080 := by simpa using h
  have := (nx_le (t := t) T LATE).2 x hx
  exact (wt_spec (t := t) (ok.1 x hx).2.2.2).2.2 u h1 (by unfold nxt at h2; omega) hm.symm
def TabM (s : Mem) (t : Nat) (T : List Hlt) : Prop := (s.1 34 0 t = nI T.length) ∧ (∀ j x, T[j]? = some x → s.1 31 0 (24 * t + j) = nI x.1 ∧ s.1 32 0 (24 * t + j) = nI x.2.1 ∧ s.1 33 0 (24 * t + j) = nI x.2.2)
theorem TabM.cnt {s : Mem} {t : Nat} {T : List Hlt} (h : TabM s t T) : s.1 34 0 t = nI T.length := h.1
theorem TabM.row {s : Mem} {t : Nat} {T : List Hlt} (h : TabM s t T) : ∀ j x, T[j]? = some x → s.1 31 0 (24 * t + j) = nI x.1 ∧ s.1 32 0 (24 * t + j) = nI x.2.1 ∧ s.1 33 0 (24 * t + j) = nI x.2.2 := h.2
def FrA (s s' : Mem) : Prop := ∀ F, (F ≠ 58 ∧ F ≠ 59) → s'.1 F = s.1 F ∧ s'.2 F = s.2 F
theorem FrA.rf {s : Mem} : FrA s s := fun _ _ => ⟨rfl, rfl⟩
theorem FrA.tr {a b c : Mem} (h : FrA a b) (g : FrA b c) : FrA a c := fun F hF => ⟨(g F hF).1.trans (h F hF).1, (g F hF).2.trans (h F hF).2⟩
theorem FrA.wI {s : Mem} {F i k : Nat} {v : Int32} (h : F = 58 ∨ F = 59) : FrA s (mm_wI s F i k v) := fun F' hF => ⟨wI_ne (by omega), rfl⟩
theorem TabM.fra {s s' : Mem} {t : Nat} {T : List Hlt} (h : TabM s t T) (f : FrA s s') : TabM s' t T :=
  ⟨by rw [(f 34 (by decide)).1]; exact h.cnt, by rw [(f 31 (by decide)).1, (f 32 (by decide)).1, (f 33 (by decide)).1]; exact h.row⟩
def QRd (s : Mem) (st : Rid) : Prop := (∀ b, b < 4 → s.1 58 0 b = bI (st.1 b)) ∧ (∀ k, k < 8 → s.1 59 0 k = nI (st.2 k))
theorem QRd.ab {s : Mem} {st : Rid} (h : QRd s st) : ∀ b, b < 4 → s.1 58 0 b = bI (st.1 b) := h.1
theorem QRd.lv {s : Mem} {st : Rid} (h : QRd s st) : ∀ k, k < 8 → s.1 59 0 k = nI (st.2 k) := h.2
section
variable {t : Nat} {T : List Hlt}
theorem M_nextStop_lp (ok : TabOk T) (ht : t < 8) {u : Nat} (hu : u ≤ 2000100000) {s : Mem} (hT : TabM s t T) {kk : Int32 → Mem → RR} : ∀ (m n j b : Nat), j + m = T.length → m < n → b ≤ LATE → lp_M_nextStop_9 (nI t) (nI u) kk n (nI b) (nI (24 * t + j)) s = kk (nI ((T.drop j).foldl (nxF u) b)) s := by
  have hLt : LATE = 2147483647 := rfl
  have hlen := ok.2.2
  intro m
  induction m with
  | zero =>
    intro n j b hp hn hb
    obtain ⟨n, rfl⟩ : ∃ n', n = n' + 1 := ⟨n - 1, by omega⟩
    unfold lp_M_nextStop_9
    rw [ld_ok ht (by omega), hT.cnt, show 24 * nI t + nI T.length = nI (24 * t + T.length) by simp only [qI_lit, qI_mul, qI_add], if_pos (by simp (disch := omega) only [qI_lit, qI_m1, qI_add, qI_mul, qI_le, qI_lt, qI_inj, qI_ne_m, m_ne_nI, m_lt_nI, m_le_nI, qI_lt_m, qI_le_m, qI_sub, qI_div, qI_rem, bI_0, bI_1]; omega), List.drop_of_length_le (by omega)]
    rfl
  | succ m ih =>
    intro n j b hp hn hb
    obtain ⟨n, rfl⟩ : ∃ n', n = n' + 1 := ⟨n - 1, by omega⟩
    unfold lp_M_nextStop_9
    have hj : j < T.length := by omega
    have hx : T[j]? = some T[j] := List.getElem?_eq_getElem hj
    have hxb := ok.1 T[j] (List.getElem_mem hj)
    obtain ⟨r1, r2, r3⟩ := hT.row j _ hx
    have hmod : u % 10080 < 10080 := Nat.mod_lt _ (by omega)
    have ew : nI u + mm_irem (nI T[j].2.2 - mm_irem (nI u) 10080 + 10080) 10080 = nI (wt u T[j].2.2) := by
      rw [show (10080 : Int32) = nI 10080 from rfl, qI_rem (by omega) (by omega)]
      have e1 : nI T[j].2.2 - nI (u % 10080) + nI 10080 = nI (T[j].2.2 + 10080 - u % 10080) := by
        rw [Int32.sub_eq_add_neg, show nI T[j].2.2 + -nI (u % 10080) + nI 10080 = (nI T[j].2.2 + nI 10080) + -nI (u % 10080) by ac_rfl, ← Int32.sub_eq_add_neg, qI_add, qI_sub (by omega)]
      rw [e1, qI_rem (by omega) (by omega), qI_add]; rfl
    have hwt := wt_spec (t := u) hxb.2.2.2
    have e : nI (24 * t + j) + 1 = nI (24 * t + (j + 1)) := by simp (disch := omega) only [qI_lit, qI_m1, qI_add, qI_mul, qI_le, qI_lt, qI_inj, qI_ne_m, m_ne_nI, m_lt_nI, m_le_nI, qI_lt_m, qI_le_m, qI_sub, qI_div, qI_rem, bI_0, bI_1]; omega
    have hd : T.drop j = T[j] :: T.drop (j + 1) := List.drop_eq_getElem_cons hj
    rw [ld_ok ht (by omega), hT.cnt, show 24 * nI t + nI T.length = nI (24 * t + T.length) by simp only [qI_lit, qI_mul, qI_add], if_neg (by simp (disch := omega) only [qI_lit, qI_m1, qI_add, qI_mul, qI_le, qI_lt, qI_inj, qI_ne_m, m_ne_nI, m_lt_nI, m_le_nI, qI_lt_m, qI_le_m, qI_sub, qI_div, qI_rem, bI_0, bI_1]; omega), ld_ok (by omega) (by omega), r3, ew, e, hd, List.foldl_cons]
    unfold nxF
    by_cases c : wt u T[j].2.2 < b
    · rw [if_neg (by simp (disch := omega) only [qI_lit, qI_m1, qI_add, qI_mul, qI_le, qI_lt, qI_inj, qI_ne_m, m_ne_nI, m_lt_nI, m_le_nI, qI_lt_m, qI_le_m, qI_sub, qI_div, qI_rem, bI_0, bI_1]; omega), if_pos c]
      exact ih n (j + 1) _ (by omega) (by omega) (by omega)
    · rw [if_pos (by simp (disch := omega) only [qI_lit, qI_m1, qI_add, qI_mul, qI_le, qI_lt, qI_inj, qI_ne_m, m_ne_nI, m_lt_nI, m_le_nI, qI_lt_m, qI_le_m, qI_sub, qI_div, qI_rem, bI_0, bI_1]; omega), if_neg c]
      exact ih n (j + 1) _ (by omega) (by omega) hb
theorem M_nextStop (ok : TabOk T) (ht : t < 8) {u : Nat} (hu : u ≤ 2000100000) {s : Mem} (hT : TabM s t T) : f_M_nextStop (nI t) (nI u) s = mm_ri (nI (nxt T u)) s := by
  have := ok.2.2
  unfold f_M_nextStop
  show lp_M_nextStop_9 (nI t) (nI u) (fun x s => mm_ri x s) FU (nI LATE) (24 * nI t) s = _
  rw [show 24 * nI t = nI (24 * t + 0) by simp only [qI_lit, qI_mul]; rfl, M_nextStop_lp ok ht hu hT T.length FU 0 LATE (by omega) (by unfold FU; omega) (Nat.le_refl _)]
  rfl
theorem M_passes_lp (ok : TabOk T) (ht : t < 8) {u to : Nat} (hu : u ≤ 2000100000) (hto : to < 8) {kk : Int32 → Mem → RR} : ∀ (m n j : Nat) (s : Mem) (st : Rid), TabM s t T → QRd s st → bndC st (u + 1) → j + m = T.length → m < n →
    ∃ s', lp_M_passes_9 (nI t) (nI u) (nI to) kk n (bI (decide (st.2 to ≠ LATE))) (nI (24 * t + j)) s = kk (bI (decide (((atM (T.drop j) (u % 10080)).foldl (see u) st).2 to ≠ LATE))) s' ∧ QRd s' ((atM (T.drop j) (u % 10080)).foldl (see u) st) ∧ FrA s s' := by
  have hLt : LATE = 2147483647 := rfl
  have hlen := ok.2.2
  intro m
  induction m with
  | zero =>
    intro n j s st hT hR hB hp hn
    obtain ⟨n, rfl⟩ : ∃ n', n = n' + 1 := ⟨n - 1, by omega⟩
    unfold lp_M_passes_9
    rw [ld_ok ht (by omega), hT.cnt, show 24 * nI t + nI T.length = nI (24 * t + T.length) by simp only [qI_lit, qI_mul, qI_add], if_pos (by simp (disch := omega) only [qI_lit, qI_m1, qI_add, qI_mul, qI_le, qI_lt, qI_inj, qI_ne_m, m_ne_nI, m_lt_nI, m_le_nI, qI_lt_m, qI_le_m, qI_sub, qI_div, qI_rem, bI_0, bI_1]; omega), List.drop_of_length_le (by omega)]
    exact ⟨s, rfl, hR, FrA.rf⟩
  | succ m ih =>
    intro n j s st hT hR hB hp hn
    obtain ⟨n, rfl⟩ : ∃ n', n = n' + 1 := ⟨n - 1, by omega⟩
    unfold lp_M_passes_9
    have hj : j < T.length := by omega
    have hx : T[j]? = some T[j] := List.getElem?_eq_getElem hj
    have hxb := ok.1 T[j] (List.getElem_mem hj)
    obtain ⟨r1, r2, r3⟩ := hT.row j _ hx
    have e : nI (24 * t + j) + 1 = nI (24 * t + (j + 1)) := by simp (disch := omega) only [qI_lit, qI_m1, qI_add, qI_mul, qI_le, qI_lt, qI_inj, qI_ne_m, m_ne_nI, m_lt_nI, m_le_nI, qI_lt_m, qI_le_m, qI_sub, qI_div, qI_rem, bI_0, bI_1]; omega
    have hd : T.drop j = T[j] :: T.drop (j + 1) := List.drop_eq_getElem_cons hj
    have hmod : u % 10080 < 10080 := Nat.mod_lt _ (by omega)
    rw [ld_ok ht (by omega), hT.cnt, show 24 * nI t + nI T.length = nI (24 * t + T.length) by simp only [qI_lit, qI_mul, qI_add], if_neg (by simp (disch := omega) only [qI_lit, qI_m1, qI_add, qI_mul, qI_le, qI_lt, qI_inj, qI_ne_m, m_ne_nI, m_lt_nI, m_le_nI, qI_lt_m, qI_le_m, qI_sub, qI_div, qI_rem, bI_0, bI_1]; omega), ld_ok (by omega) (by omega), r3, show (10080 : Int32) = nI 10080 from rfl, qI_rem (by omega) (by omega), e, hd]
    unfold atM
    rw [List.filter_cons]
    by_cases c : T[j].2.2 = u % 10080
    case neg =>
      rw [if_pos (by simp (disch := omega) only [qI_lit, qI_m1, qI_add, qI_mul, qI_le, qI_lt, qI_inj, qI_ne_m, m_ne_nI, m_lt_nI, m_le_nI, qI_lt_m, qI_le_m, qI_sub, qI_div, qI_rem, bI_0, bI_1]; exact c), if_neg (by simpa using c)]
      exact ih n (j + 1) s st hT hR hB (by omega) (by omega)
    rw [if_neg (by simp (disch := omega) only [qI_lit, qI_m1, qI_add, qI_mul, qI_le, qI_lt, qI_inj, qI_ne_m, m_ne_nI, m_lt_nI, m_le_nI, qI_lt_m, qI_le_m, qI_sub, qI_div, qI_rem, bI_0, bI_1]; exact fun h => h c), if_pos (by simpa using c), List.foldl_cons, ld_ok (by omega) (by omega), r1, ld_ok (by omega) (by omega), r2, show nI T[j].1 - 8 = nI (T[j].1 - 8) by simp (disch := omega) only [qI_lit, qI_m1, qI_add, qI_mul, qI_le, qI_lt, qI_inj, qI_ne_m, m_ne_nI, m_lt_nI, m_le_nI, qI_lt_m, qI_le_m, qI_sub, qI_div, qI_rem, bI_0, bI_1], ld_ok (by omega) (by omega), hR.ab _ (by omega)]
    have hse := see_bnd (x := T[j]) hB
    have hbk := hB T[j].2.1
    have hle : st.2 T[j].2.1 < 2147483648 := by omega
    have hsee : see u st T[j] = if st.1 (T[j].1 - 8) then (st.1, if st.2 T[j].2.1 = LATE then u1 st.2 T[j].2.1 (u + 1) else st.2) else if st.2 T[j].2.1 ≤ u then (u1 st.1 (T[j].1 - 8) true, st.2) else st := rfl
    cases hab : st.1 (T[j].1 - 8) with
    | false =>
      rw [hab] at hsee
      simp only [Bool.false_eq_true, if_false] at hsee
      rw [if_pos (by decide), ld_ok (by omega) (by omega), hR.lv _ (by omega)]
      by_cases c2 : st.2 T[j].2.1 ≤ u
      · rw [if_neg (by simp (disch := omega) only [qI_lit, qI_m1, qI_add, qI_mul, qI_le, qI_lt, qI_inj, qI_ne_m, m_ne_nI, m_lt_nI, m_le_nI, qI_lt_m, qI_le_m, qI_sub, qI_div, qI_rem, bI_0, bI_1]; omega), show (1 : Int32) = bI true from rfl, sz_okb (by omega) (by omega)]
        rw [if_pos c2] at hsee
        have hR' : QRd (mm_wI s 58 0 (T[j].1 - 8) (bI true)) (see u st T[j]) := by
          rw [hsee]
          refine ⟨fun b hb => ?_, hR.lv⟩
          show _ = bI (u1 st.1 (T[j].1 - 8) true b)
          by_cases eb : b = T[j].1 - 8
          · rw [eb, wI_y, u1_at]
          · rw [wI_n (by omega), u1_ne eb]; exact hR.ab b hb
        have hfl : (see u st T[j]).2 = st.2 := by rw [hsee]
        obtain ⟨s2, e2, h2, f2⟩ := ih n (j + 1) _ _ (hT.fra (FrA.wI (.inl rfl))) hR' hse (by omega) (by omega)
        rw [hfl] at e2
        exact ⟨s2, e2, h2, (FrA.wI (.inl rfl)).tr f2⟩
      · rw [if_pos (by simp (disch := omega) only [qI_lit, qI_m1, qI_add, qI_mul, qI_le, qI_lt, qI_inj, qI_ne_m, m_ne_nI, m_lt_nI, m_le_nI, qI_lt_m, qI_le_m, qI_sub, qI_div, qI_rem, bI_0, bI_1]; omega)]
        rw [if_neg c2] at hsee
        rw [hsee]
        exact ih n (j + 1) s st hT hR hB (by omega) (by omega)
    | true =>
      rw [hab] at hsee
      simp only [if_true] at hsee
      rw [if_neg (by decide)]
      simp only [mm_jn]
      have hfl : (if ¬ nI T[j].2.1 = nI to then bI (decide (st.2 to ≠ LATE)) else 1) = bI (decide ((see u st T[j]).2 to ≠ LATE)) := by
        rw [hsee]
        by_cases ek : T[j].2.1 = to
        · rw [if_neg (by simp (disch := omega) only [qI_lit, qI_m1, qI_add, qI_mul, qI_le, qI_lt, qI_inj, qI_ne_m, m_ne_nI, m_lt_nI, m_le_nI, qI_lt_m, qI_le_m, qI_sub, qI_div, qI_rem, bI_0, bI_1]; exact fun h => h ek)]
          show _ = bI (decide ((if st.2 T[j].2.1 = LATE then u1 st.2 T[j].2.1 (u + 1) else st.2) to ≠ LATE))
          rw [← ek]
          split
          · rw [u1_at, decide_eq_true (by omega)]; rfl
          · next h9 => rw [decide_eq_true h9]; rfl
        · rw [if_pos (by simp (disch := omega) only [qI_lit, qI_m1, qI_add, qI_mul, qI_le, qI_lt, qI_inj, qI_ne_m, m_ne_nI, m_lt_nI, m_le_nI, qI_lt_m, qI_le_m, qI_sub, qI_div, qI_rem, bI_0, bI_1]; exact ek)]
          show _ = bI (decide ((if st.2 T[j].2.1 = LATE then u1 st.2 T[j].2.1 (u + 1) else st.2) to ≠ LATE))
          split
          · rw [u1_ne (Ne.symm ek)]
          · rfl
      have hstep : ∀ y : Int32, y = bI (decide ((see u st T[j]).2 to ≠ LATE)) → ∃ s', (mm_ld s 59 0 8 (nI T[j].2.1) fun v86 => if v86 ≤ nI u + 1 then lp_M_passes_9 (nI t) (nI u) (nI to) kk n y (nI (24 * t + (j + 1))) s else mm_st s 59 0 8 (nI T[j].2.1) (nI u + 1) fun s102 => lp_M_passes_9 (nI t) (nI u) (nI to) kk n y (nI (24 * t + (j + 1))) s102) = kk (bI (decide (((atM (T.drop (j + 1)) (u % 10080)).foldl (see u) (see u st T[j])).2 to ≠ LATE))) s' ∧ QRd s' ((atM (T.drop (j + 1)) (u % 10080)).foldl (see u) (see u st T[j])) ∧ FrA s s' := by
        intro y hy
        subst hy
        rw [ld_ok (by omega) (by omega), hR.lv _ (by omega), show nI u + 1 = nI (u + 1) by simp (disch := omega) only [qI_lit, qI_m1, qI_add, qI_mul, qI_le, qI_lt, qI_inj, qI_ne_m, m_ne_nI, m_lt_nI, m_le_nI, qI_lt_m, qI_le_m, qI_sub, qI_div, qI_rem, bI_0, bI_1]]
        by_cases c2 : st.2 T[j].2.1 = LATE
        · rw [if_neg (by simp (disch := omega) only [qI_lit, qI_m1, qI_add, qI_mul, qI_le, qI_lt, qI_inj, qI_ne_m, m_ne_nI, m_lt_nI, m_le_nI, qI_lt_m, qI_le_m, qI_sub, qI_div, qI_rem, bI_0, bI_1]; omega), st_ok (by omega) (by omega)]
          have hR' : QRd (mm_wI s 59 0 T[j].2.1 (nI (u + 1))) (see u st T[j]) := by
            rw [hsee, if_pos c2]
            refine ⟨hR.ab, fun k hk => ?_⟩
            show _ = nI (u1 st.2 T[j].2.1 (u + 1) k)
            by_cases eb : k = T[j].2.1
            · rw [eb, wI_y, u1_at]
            · rw [wI_n (by omega), u1_ne eb]; exact hR.lv k hk
          obtain ⟨s2, e2, h2, f2⟩ := ih n (j + 1) _ _ (hT.fra (FrA.wI (.inr rfl))) hR' hse (by omega) (by omega)
          exact ⟨s2, e2, h2, (FrA.wI (.inr rfl)).tr f2⟩
        · rw [if_pos (by simp (disch := omega) only [qI_lit, qI_m1, qI_add, qI_mul, qI_le, qI_lt, qI_inj, qI_ne_m, m_ne_nI, m_lt_nI, m_le_nI, qI_lt_m, qI_le_m, qI_sub, qI_div, qI_rem, bI_0, bI_1]; omega)]
          have : see u st T[j] = st := by rw [hsee, if_neg c2]
          rw [this]
          exact ih n (j + 1) s st hT hR hB (by omega) (by omega)
      have h9 := hstep _ hfl
      by_cases ek : nI T[j].2.1 = nI to
      · rw [if_neg (fun h => h ek)] at h9 ⊢; exact h9
      · rw [if_pos ek] at h9 ⊢; exact h9
end

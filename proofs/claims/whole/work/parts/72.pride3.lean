def TabC (s : Mem) (t : Nat) (L : List Hlt) : Prop := (s.1 1 t 3 = nI L.length) ∧ (∀ j x, L[j]? = some x → s.1 2 t j = nI x.1 ∧ s.1 3 t j = nI x.2.1 ∧ s.1 4 t j = nI x.2.2)
theorem TabC.cnt {s : Mem} {t : Nat} {L : List Hlt} (h : TabC s t L) : s.1 1 t 3 = nI L.length := h.1
theorem TabC.row {s : Mem} {t : Nat} {L : List Hlt} (h : TabC s t L) : ∀ j x, L[j]? = some x → s.1 2 t j = nI x.1 ∧ s.1 3 t j = nI x.2.1 ∧ s.1 4 t j = nI x.2.2 := h.2
theorem TabC.fr {s s' : Mem} {t : Nat} {L : List Hlt} (h : TabC s t L) (e1 : s'.1 1 = s.1 1) (e2 : s'.1 2 = s.1 2) (e3 : s'.1 3 = s.1 3) (e4 : s'.1 4 = s.1 4) : TabC s' t L :=
  ⟨by rw [e1]; exact h.cnt, by rw [e2, e3, e4]; exact h.row⟩
theorem TabC.frr {s s' : Mem} {t i : Nat} {L : List Hlt} (h : TabC s t L) (f : FrR i s s') : TabC s' t L := h.fr (f.1 1 (by omega)) (f.1 2 (by omega)) (f.1 3 (by omega)) (f.1 4 (by omega))
def SrtT (L : List Hlt) : Prop := L.Pairwise (fun x y => x.2.2 ≤ y.2.2)
theorem xor_pos {a b : Nat} (ha : a < 2147483648) (hb : b < 2147483648) : (0 : Int32) ≤ nI a ^^^ nI b := by
  rw [Int32.le_iff_toInt_le]
  have h1 : (nI a).toBitVec.msb = false := by
    have h : (nI a).toBitVec.toInt = a := qI_int ha
    rw [BitVec.msb_eq_toInt, h]; exact decide_eq_false (by omega)
  have h2 : (nI b).toBitVec.msb = false := by
    have h : (nI b).toBitVec.toInt = b := qI_int hb
    rw [BitVec.msb_eq_toInt, h]; exact decide_eq_false (by omega)
  have h3 : (nI a ^^^ nI b).toBitVec.msb = false := by
    rw [Int32.toBitVec_xor, BitVec.msb_xor, h1, h2]; rfl
  rw [BitVec.msb_eq_toInt] at h3
  have h4 := of_decide_eq_false h3
  generalize nI a ^^^ nI b = x at h4
  have h5 : x.toInt = x.toBitVec.toInt := rfl
  have h6 : (0 : Int32).toInt = 0 := by decide
  rw [h5, h6]; omega
theorem J_floorMod {s : Mem} {a b : Nat} (ha : a < 2147483648) (hb : b < 2147483648) (h0 : b ≠ 0) : f_J_floorMod (nI a) (nI b) s = mm_ri (nI (a % b)) s := by
  unfold f_J_floorMod mm_nz
  rw [if_neg (by simp (disch := omega) only [qI_lit, qI_m1, qI_add, qI_mul, qI_le, qI_lt, qI_inj, qI_ne_m, m_ne_nI, m_lt_nI, m_le_nI, qI_lt_m, qI_le_m, qI_sub, qI_div, qI_rem, bI_0, bI_1]; exact h0), if_pos (xor_pos ha hb), qI_rem ha hb]
section
variable {i t st0 m0 first last : Nat} {L : List Hlt}
set_option maxRecDepth 100000 in
theorem R_goBy_lp (hL : ∀ x ∈ L, 8 ≤ x.1 ∧ x.1 < 12 ∧ x.2.1 < 8 ∧ x.2.2 < 10080) (hlen : L.length ≤ 24) {week : Nat} (hw : week + 10081 < LATE) (hf : first < LATE) (hla : last < LATE) {x5 : Int32} {kk : Mem → RR} : ∀ (m n j : Nat) (s : Mem) (st : Rid), TabC s t L → RRd s i st0 m0 st → j + m = L.length → m < n →
    ∃ s', lp_R_goBy_23 i t (nI first) (nI last) (nI week) x5 kk n (nI j) s = kk s' ∧ RRd s' i st0 m0 (wkF (L.drop j) week first last st) ∧ FrR i s s' := by
  have hLt : LATE = 2147483647 := rfl
  intro m
  induction m with
  | zero =>
    intro n j s st hT hR hp hn
    obtain ⟨n, rfl⟩ : ∃ n', n = n' + 1 := ⟨n - 1, by omega⟩
    unfold lp_R_goBy_23
    simp only [mm_gf]
    rw [hT.cnt, if_pos (by simp (disch := omega) only [qI_lit, qI_m1, qI_add, qI_mul, qI_le, qI_lt, qI_inj, qI_ne_m, m_ne_nI, m_lt_nI, m_le_nI, qI_lt_m, qI_le_m, qI_sub, qI_div, qI_rem, bI_0, bI_1]; omega), List.drop_of_length_le (by omega)]
    exact ⟨s, rfl, hR, FrR.rf⟩
  | succ m ih =>
    intro n j s st hT hR hp hn
    obtain ⟨n, rfl⟩ : ∃ n', n = n' + 1 := ⟨n - 1, by omega⟩
    unfold lp_R_goBy_23
    simp only [mm_gf]
    have hj : j < L.length := by omega
    have hx : L[j]? = some L[j] := List.getElem?_eq_getElem hj
    have hxb := hL L[j] (List.getElem_mem hj)
    obtain ⟨r1, r2, r3⟩ := hT.row j _ hx
    have e : nI j + 1 = nI (j + 1) := by simp (disch := omega) only [qI_lit, qI_m1, qI_add, qI_mul, qI_le, qI_lt, qI_inj, qI_ne_m, m_ne_nI, m_lt_nI, m_le_nI, qI_lt_m, qI_le_m, qI_sub, qI_div, qI_rem, bI_0, bI_1]
    rw [hT.cnt, if_neg (by simp (disch := omega) only [qI_lit, qI_m1, qI_add, qI_mul, qI_le, qI_lt, qI_inj, qI_ne_m, m_ne_nI, m_lt_nI, m_le_nI, qI_lt_m, qI_le_m, qI_sub, qI_div, qI_rem, bI_0, bI_1]; omega), ld_ok (by omega) (by omega), r3, qI_add, e, ld_ok (by omega) (by omega), r1, ld_ok (by omega) (by omega), r2, show nI L[j].1 - 8 = nI (L[j].1 - 8) by simp (disch := omega) only [qI_lit, qI_m1, qI_add, qI_mul, qI_le, qI_lt, qI_inj, qI_ne_m, m_ne_nI, m_lt_nI, m_le_nI, qI_lt_m, qI_le_m, qI_sub, qI_div, qI_rem, bI_0, bI_1]]
    have hd : L.drop j = L[j] :: L.drop (j + 1) := List.drop_eq_getElem_cons hj
    have hfold : wkF (L.drop j) week first last st = wkF (L.drop (j + 1)) week first last (if inW first last (week + L[j].2.2) then see (week + L[j].2.2) st L[j] else st) := by
      rw [hd]; rfl
    rw [hfold]
    by_cases c1 : week + L[j].2.2 < first
    · rw [if_pos (by simp (disch := omega) only [qI_lit, qI_m1, qI_add, qI_mul, qI_le, qI_lt, qI_inj, qI_ne_m, m_ne_nI, m_lt_nI, m_le_nI, qI_lt_m, qI_le_m, qI_sub, qI_div, qI_rem, bI_0, bI_1]; exact c1), if_neg (fun h9 => by have := h9.1; omega)]
      exact ih n (j + 1) s st hT hR (by omega) (by omega)
    · rw [if_neg (by simp (disch := omega) only [qI_lit, qI_m1, qI_add, qI_mul, qI_le, qI_lt, qI_inj, qI_ne_m, m_ne_nI, m_lt_nI, m_le_nI, qI_lt_m, qI_le_m, qI_sub, qI_div, qI_rem, bI_0, bI_1]; exact c1)]
      by_cases c2 : last < week + L[j].2.2
      · rw [if_pos (by simp (disch := omega) only [qI_lit, qI_m1, qI_add, qI_mul, qI_le, qI_lt, qI_inj, qI_ne_m, m_ne_nI, m_lt_nI, m_le_nI, qI_lt_m, qI_le_m, qI_sub, qI_div, qI_rem, bI_0, bI_1]; exact c2), if_neg (fun h9 => by have := h9.2; omega)]
        exact ih n (j + 1) s st hT hR (by omega) (by omega)
      · rw [if_neg (by simp (disch := omega) only [qI_lit, qI_m1, qI_add, qI_mul, qI_le, qI_lt, qI_inj, qI_ne_m, m_ne_nI, m_lt_nI, m_le_nI, qI_lt_m, qI_le_m, qI_sub, qI_div, qI_rem, bI_0, bI_1]; exact c2), if_pos ⟨by omega, by omega⟩]
        obtain ⟨s1, e1, h1, f1⟩ := R_seeStop hR (x := L[j]) (t := week + L[j].2.2) (by omega) (by omega) hxb.2.2.1
        rw [e1, cV_ok]
        obtain ⟨s2, e2, h2, f2⟩ := ih n (j + 1) s1 _ (hT.frr f1) h1 (by omega) (by omega)
        exact ⟨s2, e2, h2, f1.tr f2⟩
set_option maxRecDepth 100000 in
theorem R_goBy {s : Mem} {T : List Hlt} {st : Rid} (hT : TabC s t L) (hs : SrtT L) (hp : L.Perm T) (ok : TabOk T) (hR : RRd s i st0 m0 st) (hf : first ≤ 2000100000) (h2 : first ≤ last + 1) (h3 : last ≤ first + 20160) :
    ∃ s', f_R_goBy i t (nI first) (nI last) s = mm_rv s' ∧ RRd s' i st0 m0 (runT T first st (last + 1 - first)) ∧ FrR i s s' := by
  have hLt : LATE = 2147483647 := rfl
  have hb : ∀ x ∈ L, 8 ≤ x.1 ∧ x.1 < 12 ∧ x.2.1 < 8 ∧ x.2.2 < 10080 := fun x hx => ok.1 x (hp.mem_iff.mp hx)
  have hlen : L.length ≤ 24 := by rw [hp.length_eq]; exact ok.2.2
  unfold f_R_goBy
  rw [show (10080 : Int32) = nI 10080 from rfl, J_floorMod (by omega) (by omega) (by omega), cI_ok, qI_sub (Nat.mod_le _ _)]
  have hmod : first % 10080 < 10080 := Nat.mod_lt _ (by omega)
  generalize hwk : first - first % 10080 = week
  have hwm : week % 10080 = 0 := by omega
  show ∃ s', lp_R_goBy_14 i t (nI first) (nI last) (fun s14 => mm_rv s14) (99996 + 1 + 1 + 1 + 1) (nI week) 0 s = _ ∧ _
  unfold lp_R_goBy_14
  rw [if_neg (by decide)]
  obtain ⟨s1, e1, h1, f1⟩ := R_goBy_lp (i := i) (st0 := st0) (m0 := m0) (x5 := 0) (kk := fun s23 => lp_R_goBy_14 i t (nI first) (nI last) (fun s14 => mm_rv s14) (99996 + 1 + 1 + 1) (nI week + 10080) (0 + 1) s23) (first := first) (last := last) hb hlen (week := week) (by omega) (by omega) (by omega) L.length FU 0 s st hT hR (by omega) (by unfold FU; omega)
  show ∃ s', lp_R_goBy_23 i t (nI first) (nI last) (nI week) 0 _ FU (nI 0) s = _ ∧ _
  rw [e1, show nI week + 10080 = nI (week + 10080) by simp (disch := omega) only [qI_lit, qI_m1, qI_add, qI_mul, qI_le, qI_lt, qI_inj, qI_ne_m, m_ne_nI, m_lt_nI, m_le_nI, qI_lt_m, qI_le_m, qI_sub, qI_div, qI_rem, bI_0, bI_1], show (0 : Int32) + 1 = 1 by decide]
  unfold lp_R_goBy_14
  rw [if_neg (by decide)]
  obtain ⟨s2, e2, h2', f2⟩ := R_goBy_lp (i := i) (st0 := st0) (m0 := m0) (x5 := 1) (kk := fun s23 => lp_R_goBy_14 i t (nI first) (nI last) (fun s14 => mm_rv s14) (99996 + 1 + 1) (nI (week + 10080) + 10080) (1 + 1) s23) (first := first) (last := last) hb hlen (week := week + 10080) (by omega) (by omega) (by omega) L.length FU 0 s1 _ (hT.frr f1) h1 (by omega) (by unfold FU; omega)
  show ∃ s', lp_R_goBy_23 i t (nI first) (nI last) (nI (week + 10080)) 1 _ FU (nI 0) s1 = _ ∧ _
  rw [e2, show nI (week + 10080) + 10080 = nI (week + 20160) by simp (disch := omega) only [qI_lit, qI_m1, qI_add, qI_mul, qI_le, qI_lt, qI_inj, qI_ne_m, m_ne_nI, m_lt_nI, m_le_nI, qI_lt_m, qI_le_m, qI_sub, qI_div, qI_rem, bI_0, bI_1], show (1 : Int32) + 1 = 2 by decide]
  unfold lp_R_goBy_14
  rw [if_neg (by decide)]
  obtain ⟨s3, e3, h3', f3⟩ := R_goBy_lp (i := i) (st0 := st0) (m0 := m0) (x5 := 2) (kk := fun s23 => lp_R_goBy_14 i t (nI first) (nI last) (fun s14 => mm_rv s14) (99996 + 1) (nI (week + 20160) + 10080) (2 + 1) s23) (first := first) (last := last) hb hlen (week := week + 20160) (by omega) (by omega) (by omega) L.length FU 0 s2 _ ((hT.frr f1).frr f2) h2' (by omega) (by unfold FU; omega)
  show ∃ s', lp_R_goBy_23 i t (nI first) (nI last) (nI (week + 20160)) 2 _ FU (nI 0) s2 = _ ∧ _
  rw [e3, show (2 : Int32) + 1 = 3 by decide]
  unfold lp_R_goBy_14
  rw [if_pos (by decide)]
  refine ⟨s3, rfl, ?_, f1.tr (f2.tr f3)⟩
  rw [List.drop_zero] at h3'
  rw [wk3 hs hp ok hwm (by omega) (by omega) h2 (by omega)] at h3'
  exact h3'
end

def FrX2 (s s' : Mem) : Prop := ∀ F, (F < 16 ∨ 17 < F) → s'.1 F = s.1 F ∧ s'.2 F = s.2 F
theorem FrX2.rf {s : Mem} : FrX2 s s := fun _ _ => ⟨rfl, rfl⟩
theorem FrX2.tr {a b c : Mem} (h : FrX2 a b) (g : FrX2 b c) : FrX2 a c := fun F hF => ⟨(g F hF).1.trans (h F hF).1, (g F hF).2.trans (h F hF).2⟩
theorem FrX2.wI {s : Mem} {F i k : Nat} {v : Int32} (h : 16 ≤ F ∧ F ≤ 17) : FrX2 s (mm_wI s F i k v) := fun F' hF => ⟨wI_ne (by omega), rfl⟩
theorem byS_app (sz : Nat → Nat) (xs : List Nat) (x : Nat) : byS sz (xs ++ [x]) = byS sz xs + sz x := by simp [byS]
theorem byS_le {sz : Nat → Nat} (h : ∀ l, sz l ≤ 32) (xs : List Nat) : byS sz xs ≤ 32 * xs.length := by
  induction xs with
  | nil => exact Nat.le_refl _
  | cons x xs ih => have := h x; simp only [byS, List.map_cons, List.sum_cons, List.length_cons] at *; omega
def bit3 (a b c : Bool) (j : Nat) : Bool := if j = 0 then a else if j = 1 then b else c
theorem bit_ok (a b c : Bool) {j : Nat} (hj : j < 3) : ((mm_ishr (nI (mk3 a b c)) (nI j)) &&& nI 1 = nI 1) = (bit3 a b c j = true) := by
  match j, hj with
  | 0, _ => exact bit0 a b c
  | 1, _ => exact bit1 a b c
  | 2, _ => exact bit2 a b c
def oPut (B : Bxs) (b l : Nat) : Bxs := (mkBxs B.quo (u1 B.lies b (B.lies b ++ [l])) B.memb B.dl B.dlv)
section
variable {s : Mem} {sz : Nat → Nat} {B : Bxs} {b l : Nat}
theorem B_fits (h : RB s sz B) (hs : ∀ l, sz l ≤ 32) (hb : b < 24) (hl : (B.lies b).length ≤ 16) (hq : ∀ q, B.quo b = some q → q ≤ 200) :
    f_B_fits b (nI (sz l)) s = mm_ri (bI (match B.quo b with | none => false | some q => decide (byS sz (B.lies b) + sz l ≤ q))) s := by
  unfold f_B_fits mm_gf
  have h1 := byS_le hs (B.lies b)
  have h2 := hs l
  show (if s.1 16 b 3 < s.1 16 b 2 + nI (sz l) then _ else _) = _
  rw [h.quo b hb, h.byt b hb, qI_add]
  cases hc : B.quo b with
  | none =>
    show (if mone < _ then _ else _) = _
    rw [if_pos (by simp (disch := omega) only [qI_lit, qI_m1, qI_add, qI_mul, qI_le, qI_lt, qI_inj, qI_ne_m, m_ne_nI, m_lt_nI, m_le_nI, qI_lt_m, qI_le_m, qI_sub, qI_div, qI_rem, bI_0, bI_1])]; rfl
  | some q =>
    have hq := hq q hc
    show (if nI q < _ then _ else _) = mm_ri (bI (decide (byS sz (B.lies b) + sz l ≤ q))) s
    by_cases hle : byS sz (B.lies b) + sz l ≤ q
    · rw [if_neg (by simp (disch := omega) only [qI_lit, qI_m1, qI_add, qI_mul, qI_le, qI_lt, qI_inj, qI_ne_m, m_ne_nI, m_lt_nI, m_le_nI, qI_lt_m, qI_le_m, qI_sub, qI_div, qI_rem, bI_0, bI_1]; omega), decide_eq_true hle]; rfl
    · rw [if_pos (by simp (disch := omega) only [qI_lit, qI_m1, qI_add, qI_mul, qI_le, qI_lt, qI_inj, qI_ne_m, m_ne_nI, m_lt_nI, m_le_nI, qI_lt_m, qI_le_m, qI_sub, qI_div, qI_rem, bI_0, bI_1]; omega), decide_eq_false hle]; rfl
theorem B_put (h : RB s sz B) (hb : b < 24) (hl : (B.lies b).length < 16) : ∃ s', f_B_put b (nI l) (nI (sz l)) s = mm_rv s' ∧ RB s' sz (oPut B b l) ∧ FrX2 s s' := by
  unfold f_B_put; simp only [mm_gf, mm_pf]
  rw [h.cnt b hb, st_ok hl (by omega)]
  refine ⟨_, rfl, ?_, (FrX2.wI (by omega)).tr ((FrX2.wI (by omega)).tr (FrX2.wI (by omega)))⟩
  refine ⟨h.grp, fun b' hb' => ?_, fun b' hb' => ?_, fun b' hb' => ?_, fun b' j x hb' hx => ?_, h.dlv⟩
  · show _ = nI (u1 B.lies b (B.lies b ++ [l]) b').length
    rw [wI_k (by decide)]
    by_cases e : b' = b
    · subst e; rw [wI_y, u1_at, wI_ne (by decide), h.cnt _ hb, List.length_append]; simp only [qI_lit, qI_add]; rfl
    · rw [wI_n (by omega), u1_ne e]; exact h.cnt _ hb'
  · show _ = nI (byS sz (u1 B.lies b (B.lies b ++ [l]) b'))
    by_cases e : b' = b
    · subst e; rw [wI_y, u1_at, byS_app, wI_k (by decide), wI_ne (by decide), h.byt _ hb, qI_add]
    · rw [wI_n (by omega), u1_ne e, wI_k (by decide)]; exact h.byt _ hb'
  · rw [wI_k (by decide), wI_k (by decide)]; exact h.quo _ hb'
  · have hx' : (u1 B.lies b (B.lies b ++ [l]) b')[j]? = some x := hx
    rw [wI_ne (by decide), wI_ne (by decide)]
    by_cases e : b' = b
    · subst e
      rw [u1_at] at hx'
      by_cases ej : j = (B.lies b').length
      · subst ej
        rw [wI_y]
        simp at hx'; rw [hx']
      · rw [wI_n (by omega)]
        have hj : j < (B.lies b').length := by
          have := (List.getElem?_eq_some_iff.mp hx').1
          simp at this; omega
        rw [List.getElem?_append_left hj] at hx'
        exact h.lie _ _ _ hb hx'
    · rw [u1_ne e] at hx'
      rw [wI_n (by omega)]; exact h.lie _ _ _ hb' hx'
end
section
variable {s : Mem} {sz : Nat → Nat} {B : Bxs} {g l : Nat}
def fitb (sz : Nat → Nat) (B : Bxs) (l b : Nat) : Bool := match B.quo b with
  | none => false
  | some q => decide (byS sz (B.lies b) + sz l ≤ q)
theorem C_allFit_lp (h : RB s sz B) (hs : ∀ l, sz l ≤ 32) (hg : g < 8) (hl : ∀ b, (B.lies b).length ≤ 16) (hq : ∀ b q, B.quo b = some q → q ≤ 200) (a0 a1 a2 : Bool) {kk : Mem → RR} {j n : Nat} (hj : j < 3) :
    lp_C_allFit_2 g (nI (mk3 a0 a1 a2)) (nI (sz l)) kk (n + 1) (nI j) s = if bit3 a0 a1 a2 j && !fitb sz B l (3 * g + j) then mm_ri (nI 0) s else lp_C_allFit_2 g (nI (mk3 a0 a1 a2)) (nI (sz l)) kk n (nI (j + 1)) s := by
  conv => lhs; unfold lp_C_allFit_2
  rw [if_neg (by simp (disch := omega) only [qI_lit, qI_m1, qI_add, qI_mul, qI_le, qI_lt, qI_inj, qI_ne_m, m_ne_nI, m_lt_nI, m_le_nI, qI_lt_m, qI_le_m, qI_sub, qI_div, qI_rem, bI_0, bI_1]; omega)]
  have e1 : nI j + 1 = nI (j + 1) := by simp (disch := omega) only [qI_lit, qI_m1, qI_add, qI_mul, qI_le, qI_lt, qI_inj, qI_ne_m, m_ne_nI, m_lt_nI, m_le_nI, qI_lt_m, qI_le_m, qI_sub, qI_div, qI_rem, bI_0, bI_1]
  rw [e1]
  simp only [show (1 : Int32) = nI 1 from rfl, bit_ok a0 a1 a2 hj]
  cases hb : bit3 a0 a1 a2 j with
  | false => simp
  | true =>
    rw [if_neg (by simp), al_ok hj (by omega), B_fits h hs (by omega) (hl _) (hq _), cI_ok]
    show (if ¬ bI (fitb sz B l (3 * g + j)) = 0 then _ else _) = _
    cases hf : fitb sz B l (3 * g + j) with
    | true => rw [if_pos (by decide)]; rfl
    | false => rw [if_neg (by decide)]; rfl
theorem C_allFit (h : RB s sz B) (hs : ∀ l, sz l ≤ 32) (hg : g < 8) (hl : ∀ b, (B.lies b).length ≤ 16) (hq : ∀ b q, B.quo b = some q → q ≤ 200) (a0 a1 a2 : Bool) :
    f_C_allFit g (nI (mk3 a0 a1 a2)) (nI (sz l)) s = mm_ri (bI ((!a0 || fitb sz B l (3 * g + 0)) && (!a1 || fitb sz B l (3 * g + 1)) && (!a2 || fitb sz B l (3 * g + 2)))) s := by
  unfold f_C_allFit
  show lp_C_allFit_2 g (nI (mk3 a0 a1 a2)) (nI (sz l)) (fun s2 => mm_rz 1 s2) (99996 + 1 + 1 + 1 + 1) (nI 0) s = _
  rw [C_allFit_lp h hs hg hl hq a0 a1 a2 (by decide), C_allFit_lp h hs hg hl hq a0 a1 a2 (by decide), C_allFit_lp h hs hg hl hq a0 a1 a2 (by decide)]
  have e4 : lp_C_allFit_2 g (nI (mk3 a0 a1 a2)) (nI (sz l)) (fun s2 => mm_rz 1 s2) (99996 + 1) (nI (0 + 1 + 1 + 1)) s = mm_ri (nI 1) s := by
    unfold lp_C_allFit_2; rw [if_pos (by decide)]; rfl
  rw [e4]
  simp only [bit3, Nat.zero_add, Nat.reduceAdd]
  cases a0 <;> cases a1 <;> cases a2 <;> cases fitb sz B l (3 * g + 0) <;> cases fitb sz B l (3 * g + 1) <;> cases fitb sz B l (3 * g + 2) <;> rfl
def oPutIf (B : Bxs) (a : Bool) (b l : Nat) : Bxs := if a then oPut B b l else B
theorem C_putInto_lp (hg : g < 8) (a0 a1 a2 : Bool) {kk : Mem → RR} {j n : Nat} (hj : j < 3) (h : RB s sz B) (hl : (B.lies (3 * g + j)).length < 16) :
    ∃ s', lp_C_putInto_27 g (nI l) (nI (sz l)) (nI (mk3 a0 a1 a2)) kk (n + 1) (nI j) s = lp_C_putInto_27 g (nI l) (nI (sz l)) (nI (mk3 a0 a1 a2)) kk n (nI (j + 1)) s' ∧ RB s' sz (oPutIf B (bit3 a0 a1 a2 j) (3 * g + j) l) ∧ FrX2 s s' := by
  conv => enter [1, s', 1, 1]; unfold lp_C_putInto_27
  rw [if_neg (by simp (disch := omega) only [qI_lit, qI_m1, qI_add, qI_mul, qI_le, qI_lt, qI_inj, qI_ne_m, m_ne_nI, m_lt_nI, m_le_nI, qI_lt_m, qI_le_m, qI_sub, qI_div, qI_rem, bI_0, bI_1]; omega)]
  have e1 : nI j + 1 = nI (j + 1) := by simp (disch := omega) only [qI_lit, qI_m1, qI_add, qI_mul, qI_le, qI_lt, qI_inj, qI_ne_m, m_ne_nI, m_lt_nI, m_le_nI, qI_lt_m, qI_le_m, qI_sub, qI_div, qI_rem, bI_0, bI_1]
  rw [e1]
  simp only [show (1 : Int32) = nI 1 from rfl, bit_ok a0 a1 a2 hj]
  cases hb : bit3 a0 a1 a2 j with
  | false => exact ⟨s, by simp, h, FrX2.rf⟩
  | true =>
    obtain ⟨s', e2, h2, f2⟩ := B_put (l := l) h (show 3 * g + j < 24 by omega) hl
    refine ⟨s', ?_, h2, f2⟩
    rw [if_neg (by simp), al_ok hj (by omega), e2, cV_ok]
theorem C_putInto_lp3 (a0 a1 a2 : Bool) {kk : Mem → RR} {n : Nat} : lp_C_putInto_27 g (nI l) (nI (sz l)) (nI (mk3 a0 a1 a2)) kk (n + 1) (nI 3) s = kk s := by
  unfold lp_C_putInto_27; rw [if_pos (by decide)]
theorem C_addr {t : Nat} (h : RB s sz B) (hg : g < 8) (ht : t < 5) : f_C_addressedBy g (nI t) s = mm_ri (nI (mk3 (if t < 3 then t == 0 else B.memb g (t - 3) 0) (if t < 3 then t == 1 else B.memb g (t - 3) 1) (if t < 3 then t == 2 else B.memb g (t - 3) 2))) s := by
  unfold f_C_addressedBy
  by_cases h3 : t < 3
  · rw [if_neg (by simp (disch := omega) only [qI_lit, qI_m1, qI_add, qI_mul, qI_le, qI_lt, qI_inj, qI_ne_m, m_ne_nI, m_lt_nI, m_le_nI, qI_lt_m, qI_le_m, qI_sub, qI_div, qI_rem, bI_0, bI_1]; omega)]
    simp only [if_pos h3]
    match t, h3 with
    | 0, _ => rfl
    | 1, _ => rfl
    | 2, _ => rfl
  · rw [if_pos (by simp (disch := omega) only [qI_lit, qI_m1, qI_add, qI_mul, qI_le, qI_lt, qI_inj, qI_ne_m, m_ne_nI, m_lt_nI, m_le_nI, qI_lt_m, qI_le_m, qI_sub, qI_div, qI_rem, bI_0, bI_1]; omega), show nI t - 3 = nI (t - 3) by simp (disch := omega) only [qI_lit, qI_m1, qI_add, qI_mul, qI_le, qI_lt, qI_inj, qI_ne_m, m_ne_nI, m_lt_nI, m_le_nI, qI_lt_m, qI_le_m, qI_sub, qI_div, qI_rem, bI_0, bI_1], ld_ok (by omega) (by omega), h.grp g (t - 3) hg (by omega)]
    simp only [if_neg h3]
def allb (sz : Nat → Nat) (B : Bxs) (g l : Nat) (a0 a1 a2 : Bool) : Bool := (a0 || a1 || a2) && ((!a0 || fitb sz B l (3 * g + 0)) && (!a1 || fitb sz B l (3 * g + 1)) && (!a2 || fitb sz B l (3 * g + 2)))
def oPut3 (B : Bxs) (g l : Nat) (a0 a1 a2 : Bool) : Bxs := oPutIf (oPutIf (oPutIf B a0 (3 * g + 0) l) a1 (3 * g + 1) l) a2 (3 * g + 2) l
theorem oPutIf_other {a : Bool} {b b' : Nat} (h : b' ≠ b) : (oPutIf B a b l).lies b' = B.lies b' := by
  unfold oPutIf; split
  · exact u1_ne h
  · rfl
theorem C_putInto {t : Nat} (h : RB s sz B) (hs : ∀ l, sz l ≤ 32) (hg : g < 8) (ht : t < 5) (hl : ∀ b, (B.lies b).length < 16) (hq : ∀ b q, B.quo b = some q → q ≤ 200) {a0 a1 a2 : Bool} (ha : f_C_addressedBy g (nI t) s = mm_ri (nI (mk3 a0 a1 a2)) s) :
    ∃ s', f_C_putInto g (nI t) (nI l) (nI (sz l)) s = mm_ri (bI (allb sz B g l a0 a1 a2)) s' ∧ RB s' sz (if allb sz B g l a0 a1 a2 then oPut3 B g l a0 a1 a2 else B) ∧ FrX2 s s' := by
  unfold f_C_putInto
  rw [ha, cI_ok]
  simp only [show (0 : Int32) = nI 0 from rfl, mk3_0]
  cases ho : (a0 || a1 || a2) with
  | false =>
    rw [if_pos rfl]
    have : allb sz B g l a0 a1 a2 = false := by unfold allb; rw [ho]; rfl
    rw [this]; exact ⟨s, rfl, h, FrX2.rf⟩
  | true =>
    rw [if_neg (by simp), C_allFit h hs hg (fun b => Nat.le_of_lt (hl b)) hq a0 a1 a2, cI_ok]
    have hall : allb sz B g l a0 a1 a2 = ((!a0 || fitb sz B l (3 * g + 0)) && (!a1 || fitb sz B l (3 * g + 1)) && (!a2 || fitb sz B l (3 * g + 2))) := by unfold allb; rw [ho]; rfl
    rw [← hall]
    cases hb : allb sz B g l a0 a1 a2 with
    | false =>
      rw [if_neg (by decide)]
      exact ⟨s, rfl, h, FrX2.rf⟩
    | true =>
      rw [if_pos (by decide)]
      show ∃ s', lp_C_putInto_27 g (nI l) (nI (sz l)) (nI (mk3 a0 a1 a2)) (fun s27 => mm_rz 1 s27) (99996 + 1 + 1 + 1 + 1) (nI 0) s = _ ∧ _
      obtain ⟨s1, e1, h1, f1⟩ := C_putInto_lp (l := l) (kk := fun s27 => mm_rz 1 s27) (n := 99996 + 1 + 1 + 1) hg a0 a1 a2 (j := 0) (by decide) h (hl _)
      obtain ⟨s2, e2, h2, f2⟩ := C_putInto_lp (l := l) (kk := fun s27 => mm_rz 1 s27) (n := 99996 + 1 + 1) hg a0 a1 a2 (j := 1) (by decide) h1 (by rw [oPutIf_other (by omega)]; exact hl _)
      obtain ⟨s3, e3, h3, f3⟩ := C_putInto_lp (l := l) (kk := fun s27 => mm_rz 1 s27) (n := 99996 + 1) hg a0 a1 a2 (j := 2) (by decide) h2 (by rw [oPutIf_other (by omega), oPutIf_other (by omega)]; exact hl _)
      rw [e1, e2, e3, C_putInto_lp3]
      exact ⟨s3, rfl, h3, f1.tr (f2.tr f3)⟩
end

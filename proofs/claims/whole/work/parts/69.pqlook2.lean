theorem le_sub_q {a q b : Nat} (ha : a < 100000) (hq : q < 100000) (hb : b < 100000) : (nI a ≤ nI q - nI b) ↔ b + a ≤ q := by
  rw [Int32.le_iff_toInt_le, Int32.toInt_sub, qI_int (by omega), qI_int (by omega), qI_int (by omega), Int.bmod_def]
  split <;> omega
theorem oPutIf_memb {B : Bxs} {a : Bool} {b l : Nat} : (oPutIf B a b l).memb = B.memb := by unfold oPutIf; split <;> rfl
theorem oPutIf_dl {B : Bxs} {a : Bool} {b l : Nat} : (oPutIf B a b l).dl = B.dl := by unfold oPutIf; split <;> rfl
theorem oPutIf_dlv {B : Bxs} {a : Bool} {b l : Nat} : (oPutIf B a b l).dlv = B.dlv := by unfold oPutIf; split <;> rfl
theorem oPutIf_quo {B : Bxs} {a : Bool} {b l : Nat} : (oPutIf B a b l).quo = B.quo := by unfold oPutIf; split <;> rfl
theorem adr_congr {L : Lts} {B B' : Bxs} {l b : Nat} (h : B'.memb = B.memb) : adr L B' l b = adr L B l b := by unfold adr; rw [h]
section
variable {s : Mem} {L : Lts} {S : Sto} {B : Bxs} {l : Nat}
theorem M_fit_lp (hL : QL s L) (hB : QB s L.sz B) (wL : WL L) (wB : WB' L B) (hl : l < L.n) {kk : Int32 → Mem → RR} {j n c : Nat} (hj : j < 3) :
    lp_M_lookAt_76 (nI l) (nI (L.gl l)) kk (n + 1) (nI c) (nI j) s = if adr L B l j then (if fitb L.sz B l (3 * L.gl l + j) then lp_M_lookAt_76 (nI l) (nI (L.gl l)) kk n (nI (c + 1)) (nI (j + 1)) s else mm_rv s) else lp_M_lookAt_76 (nI l) (nI (L.gl l)) kk n (nI c) (nI (j + 1)) s := by
  have h16 := wL.n16
  have hg := wL.gl l hl
  have hs32 := wL.s32 l
  conv => lhs; unfold lp_M_lookAt_76
  have e1 : nI j + 1 = nI (j + 1) := by simp (disch := omega) only [qI_lit, qI_m1, qI_add, qI_mul, qI_le, qI_lt, qI_inj, qI_ne_m, m_ne_nI, m_lt_nI, m_le_nI, qI_lt_m, qI_le_m, qI_sub, qI_div, qI_rem, bI_0, bI_1]
  have e2 : nI c + 1 = nI (c + 1) := by simp (disch := omega) only [qI_lit, qI_m1, qI_add, qI_mul, qI_le, qI_lt, qI_inj, qI_ne_m, m_ne_nI, m_lt_nI, m_le_nI, qI_lt_m, qI_le_m, qI_sub, qI_div, qI_rem, bI_0, bI_1]
  have e3 : 3 * nI (L.gl l) + nI j = nI (3 * L.gl l + j) := by simp only [qI_lit, qI_mul, qI_add]
  rw [if_neg (by simp (disch := omega) only [qI_lit, qI_m1, qI_add, qI_mul, qI_le, qI_lt, qI_inj, qI_ne_m, m_ne_nI, m_lt_nI, m_le_nI, qI_lt_m, qI_le_m, qI_sub, qI_div, qI_rem, bI_0, bI_1]; omega), M_isFor hL hB wL hl hj, cI_ok, e1, e2, e3]
  cases ha : adr L B l j with
  | false => rw [if_pos (by decide)]; rfl
  | true =>
    rw [if_neg (by decide), ld_ok (by omega) (by omega), hB.quo _ (by omega), ld_ok (by omega) (by omega), hB.quo _ (by omega), M_bytesIn hL hB wL wB (by omega), cI_ok, ld_ok (by omega) (by omega), hL.sz l hl]
    simp only [if_true]
    unfold fitb
    have h1 := wB.len (3 * L.gl l + j)
    have h2 := cN_le B.dl 16
    have h3 := byS_le wL.s32 (B.lies (3 * L.gl l + j))
    cases hq : B.quo (3 * L.gl l + j) with
    | none => rw [if_pos (by show mone < 0; decide)]; rfl
    | some q =>
      have hq2 := wB.q200 _ _ hq
      show (if nI q < 0 then _ else if nI (L.sz l) ≤ nI q - nI (byS L.sz (B.lies (3 * L.gl l + j))) then _ else _) = if decide (byS L.sz (B.lies (3 * L.gl l + j)) + L.sz l ≤ q) = true then _ else _
      rw [if_neg (by simp (disch := omega) only [qI_lit, qI_m1, qI_add, qI_mul, qI_le, qI_lt, qI_inj, qI_ne_m, m_ne_nI, m_lt_nI, m_le_nI, qI_lt_m, qI_le_m, qI_sub, qI_div, qI_rem, bI_0, bI_1]; omega)]
      simp only [le_sub_q (show L.sz l < 100000 by omega) (show q < 100000 by omega) (show byS L.sz (B.lies (3 * L.gl l + j)) < 100000 by omega), decide_eq_true_eq]
theorem M_fit3 {kk : Int32 → Mem → RR} {n c : Nat} {x y : Int32} : lp_M_lookAt_76 x y kk (n + 1) (nI c) (nI 3) s = kk (nI c) s := by
  unfold lp_M_lookAt_76; rw [if_pos (by decide)]
theorem M_fit (hL : QL s L) (hB : QB s L.sz B) (wL : WL L) (wB : WB' L B) (hl : l < L.n) {kk : Int32 → Mem → RR} {n : Nat} :
    lp_M_lookAt_76 (nI l) (nI (L.gl l)) kk (n + 1 + 1 + 1 + 1) (nI 0) (nI 0) s = if (!adr L B l 0 || fitb L.sz B l (3 * L.gl l + 0)) && (!adr L B l 1 || fitb L.sz B l (3 * L.gl l + 1)) && (!adr L B l 2 || fitb L.sz B l (3 * L.gl l + 2)) then kk (nI ((if adr L B l 0 then 1 else 0) + (if adr L B l 1 then 1 else 0) + (if adr L B l 2 then 1 else 0))) s else mm_rv s := by
  have st0 : ∀ n c, _ := fun n c => M_fit_lp (kk := kk) (j := 0) (n := n) (c := c) hL hB wL wB hl (by decide)
  have st1 : ∀ n c, _ := fun n c => M_fit_lp (kk := kk) (j := 1) (n := n) (c := c) hL hB wL wB hl (by decide)
  have st2 : ∀ n c, _ := fun n c => M_fit_lp (kk := kk) (j := 2) (n := n) (c := c) hL hB wL wB hl (by decide)
  rw [st0]
  simp only [Nat.zero_add, Nat.reduceAdd] at st0 st1 st2 ⊢
  simp only [st1, st2, M_fit3]
  cases adr L B l 0 <;> cases adr L B l 1 <;> cases adr L B l 2 <;> cases fitb L.sz B l (3 * L.gl l + 0) <;> cases fitb L.sz B l (3 * L.gl l + 1) <;> cases fitb L.sz B l (3 * L.gl l + 2) <;> rfl
theorem M_dlv_lp (wL : WL L) (hl : l < L.n) {kk : Mem → RR} : ∀ (m n j : Nat) (s : Mem), QS s L.sz S → QL s L → (∀ j, j < L.sz l → S.vb (L.gl l) (4 * l + j / 8) = true) → j + m = L.sz l → m < n → ∃ s', lp_M_lookAt_152 (nI l) (nI (L.gl l)) kk n (nI j) s = kk s' ∧ (∀ q, j ≤ q → q < L.sz l → s'.1 45 0 (32 * l + q) = nI (S.bt (L.gl l) l q)) ∧ (∀ x, (x < 32 * l + j ∨ 32 * l + L.sz l ≤ x) → s'.1 45 0 x = s.1 45 0 x) ∧ (∀ F, F ≠ 45 → s'.1 F = s.1 F) ∧ s'.2 = s.2 := by
  have h16 := wL.n16
  have hs32 := wL.s32 l
  have hg := wL.gl l hl
  intro m
  induction m with
  | zero =>
    intro n j s hS hL hv hp hn
    obtain ⟨n, rfl⟩ : ∃ n', n = n' + 1 := ⟨n - 1, by omega⟩
    unfold lp_M_lookAt_152
    rw [ld_ok (by omega) (by omega), hL.sz l hl, if_pos (by simp (disch := omega) only [qI_lit, qI_m1, qI_add, qI_mul, qI_le, qI_lt, qI_inj, qI_ne_m, m_ne_nI, m_lt_nI, m_le_nI, qI_lt_m, qI_le_m, qI_sub, qI_div, qI_rem, bI_0, bI_1]; omega)]
    exact ⟨s, rfl, fun q h1 h2 => by omega, fun _ _ => rfl, fun _ _ => rfl, rfl⟩
  | succ m ih =>
    intro n j s hS hL hv hp hn
    obtain ⟨n, rfl⟩ : ∃ n', n = n' + 1 := ⟨n - 1, by omega⟩
    unfold lp_M_lookAt_152
    have e : nI j + 1 = nI (j + 1) := by simp (disch := omega) only [qI_lit, qI_m1, qI_add, qI_mul, qI_le, qI_lt, qI_inj, qI_ne_m, m_ne_nI, m_lt_nI, m_le_nI, qI_lt_m, qI_le_m, qI_sub, qI_div, qI_rem, bI_0, bI_1]
    rw [ld_ok (by omega) (by omega), hL.sz l hl, if_neg (by simp (disch := omega) only [qI_lit, qI_m1, qI_add, qI_mul, qI_le, qI_lt, qI_inj, qI_ne_m, m_ne_nI, m_lt_nI, m_le_nI, qI_lt_m, qI_le_m, qI_sub, qI_div, qI_rem, bI_0, bI_1]; omega), M_byteOf hS (by omega) (by omega) (by omega) (hv j (by omega)), cI_ok, show 32 * nI l + nI j = nI (32 * l + j) by simp only [qI_lit, qI_mul, qI_add], st_ok (by omega) (by omega), e]
    obtain ⟨s', e1, h1, h2, h3, h4⟩ := ih n (j + 1) (mm_wI s 45 0 (32 * l + j) (nI (S.bt (L.gl l) l j))) (hS.wI (by omega)) (hL.fr (FrK.wI (by omega))) hv (by omega) (by omega)
    refine ⟨s', e1, fun q g1 g2 => ?_, fun x hx => ?_, fun F hF => (h3 F hF).trans (wI_ne hF), h4⟩
    · by_cases eq : q = j
      · rw [eq, h2 _ (by omega), wI_y]
      · exact h1 q (by omega) g2
    · rw [h2 x (by omega), wI_n (by omega)]
theorem QB_put (hB : QB s L.sz B) {b : Nat} (hb : b < 24) (hlen : (B.lies b).length < 16) (hall : ∀ b, (B.lies b).length ≤ 16) : QB (mm_wI (mm_wI s 55 0 (16 * b + (B.lies b).length) (nI l)) 54 0 b (nI ((B.lies b).length + 1))) L.sz (oPut B b l) := by
  refine ⟨hB.dlv, hB.quo, fun b' hb' => ?_, fun b' j x hb' hx => ?_, hB.grp⟩
  · show _ = nI (u1 B.lies b (B.lies b ++ [l]) b').length
    by_cases e : b' = b
    · subst e; rw [wI_y, u1_at, List.length_append]; rfl
    · rw [wI_n (by omega), u1_ne e]; exact hB.cnt _ hb'
  · have hx' : (u1 B.lies b (B.lies b ++ [l]) b')[j]? = some x := hx
    rw [wI_ne (by decide)]
    by_cases e : b' = b
    · subst e
      rw [u1_at] at hx'
      by_cases ej : j = (B.lies b').length
      · subst ej
        rw [wI_y]
        simp at hx'; rw [hx']
      · rw [wI_n (by omega)]
        have hj : j < (B.lies b').length := by
          have := (List.getElem?_eq_some_iff.mp hx').1
          simp at this; omega
        rw [List.getElem?_append_left hj] at hx'
        exact hB.lie _ _ _ hb hx'
    · rw [u1_ne e] at hx'
      have hj := (List.getElem?_eq_some_iff.mp hx').1
      have := hall b'
      rw [wI_n (by omega)]; exact hB.lie _ _ _ hb' hx'
theorem M_put_lp (wL : WL L) (hl : l < L.n) {kk : Mem → RR} {j n : Nat} (hj : j < 3) (hL : QL s L) (hB : QB s L.sz B) (hlen : (B.lies (3 * L.gl l + j)).length < 16) (hall : ∀ b, (B.lies b).length ≤ 16) :
    ∃ s', lp_M_lookAt_192 (nI l) (nI (L.gl l)) kk (n + 1) (nI j) s = lp_M_lookAt_192 (nI l) (nI (L.gl l)) kk n (nI (j + 1)) s' ∧ QB s' L.sz (oPutIf B (adr L B l j) (3 * L.gl l + j) l) ∧ (∀ F, F ≠ 54 → F ≠ 55 → s'.1 F = s.1 F) ∧ s'.2 = s.2 := by
  have h16 := wL.n16
  have hg := wL.gl l hl
  conv => enter [1, s', 1, 1]; unfold lp_M_lookAt_192
  have e1 : nI j + 1 = nI (j + 1) := by simp (disch := omega) only [qI_lit, qI_m1, qI_add, qI_mul, qI_le, qI_lt, qI_inj, qI_ne_m, m_ne_nI, m_lt_nI, m_le_nI, qI_lt_m, qI_le_m, qI_sub, qI_div, qI_rem, bI_0, bI_1]
  have e3 : 3 * nI (L.gl l) + nI j = nI (3 * L.gl l + j) := by simp only [qI_lit, qI_mul, qI_add]
  rw [if_neg (by simp (disch := omega) only [qI_lit, qI_m1, qI_add, qI_mul, qI_le, qI_lt, qI_inj, qI_ne_m, m_ne_nI, m_lt_nI, m_le_nI, qI_lt_m, qI_le_m, qI_sub, qI_div, qI_rem, bI_0, bI_1]; omega), M_isFor hL hB wL hl hj, cI_ok, e1, e3]
  unfold oPutIf
  cases ha : adr L B l j with
  | false => rw [if_pos (by decide)]; exact ⟨s, rfl, hB, fun _ _ _ => rfl, rfl⟩
  | true =>
    rw [if_neg (by decide), ld_ok (by omega) (by omega), hB.cnt _ (by omega), show 16 * nI (3 * L.gl l + j) + nI (B.lies (3 * L.gl l + j)).length = nI (16 * (3 * L.gl l + j) + (B.lies (3 * L.gl l + j)).length) by simp only [qI_lit, qI_mul, qI_add], st_ok (by omega) (by omega), ld_ok (by omega) (by omega), wI_ne (by decide), hB.cnt _ (by omega), show nI (B.lies (3 * L.gl l + j)).length + 1 = nI ((B.lies (3 * L.gl l + j)).length + 1) by simp only [qI_lit, qI_add], st_ok (by omega) (by omega)]
    exact ⟨_, rfl, QB_put hB (by omega) hlen hall, fun F h1 h2 => (wI_ne h1).trans (wI_ne h2), rfl⟩
theorem M_put3 {kk : Mem → RR} {n : Nat} {x y : Int32} : lp_M_lookAt_192 x y kk (n + 1) (nI 3) s = kk s := by
  unfold lp_M_lookAt_192; rw [if_pos (by decide)]
theorem M_lookAt (hS : QS s L.sz S) (hL : QL s L) (hB : QB s L.sz B) (wL : WL L) (wB : WB' L B) (hl : l < L.n) (hdl : comp L S l → B.dl l = false) :
    ∃ s', f_M_lookAt (nI l) s = mm_rv s' ∧ QS s' L.sz (look L l (S, B)).1 ∧ QB s' L.sz (look L l (S, B)).2 ∧ FrK s s' := by
  have h16 := wL.n16
  have hg := wL.gl l hl
  have hs32 := wL.s32 l
  unfold f_M_lookAt
  rw [M_complete hS hL wL hl, cI_ok]
  by_cases hc : comp L S l
  case neg =>
    rw [decide_eq_false hc, if_neg (by decide)]
    have : look L l (S, B) = (S, B) := by unfold look; rw [if_neg hc]
    rw [this]; exact ⟨s, rfl, hS, hB, FrK.rf⟩
  have hdl := hdl hc
  have hv : ∀ j, j < L.sz l → S.vb (L.gl l) (4 * l + j / 8) = true := fun j hj => hS.vcp _ _ (hc (j / 8) (by unfold pc; omega))
  rw [decide_eq_true hc, if_pos (by decide), ld_ok (by omega) (by omega), hL.gl l hl]
  show ∃ s', lp_M_lookAt_21 (nI l) (nI (L.gl l)) _ FU (sumF (S.bt (L.gl l) l) 0) (nI 0) s = _ ∧ _
  rw [M_sum_lp hS hL wL hl hv (L.sz l) FU 0 (by omega) (by unfold FU; omega), ld_ok (by omega) (by omega), hL.sm l hl]
  by_cases hsm : sumF (S.bt (L.gl l) l) (L.sz l) = L.sm l
  case neg =>
    rw [if_neg hsm]
    obtain ⟨s6, e6, h6, f6⟩ := M_learn (w := 2) hS (show L.gl l < 12 by omega) (show l < 16 by omega) (by decide)
    rw [show (2 : Int32) = nI 2 from rfl, e6, cV_ok]
    have : look L l (S, B) = (oLearn S (L.gl l) l 2, B) := by unfold look; rw [if_pos hc, if_neg hsm]
    rw [this]; exact ⟨s6, rfl, h6, hB.frq f6, FrK.q f6⟩
  rw [if_pos hsm]
  have hlk : look L l (S, B) = if allb L.sz B (L.gl l) l (adr L B l 0) (adr L B l 1) (adr L B l 2) then (oLearn S (L.gl l) l 1, oDel L S B l) else (S, B) := by unfold look; rw [if_pos hc, if_pos hsm]
  rw [hlk]
  show ∃ s', lp_M_lookAt_76 (nI l) (nI (L.gl l)) _ (99996 + 1 + 1 + 1 + 1) (nI 0) (nI 0) s = _ ∧ _
  rw [M_fit hL hB wL wB hl]
  cases hf : ((!adr L B l 0 || fitb L.sz B l (3 * L.gl l + 0)) && (!adr L B l 1 || fitb L.sz B l (3 * L.gl l + 1)) && (!adr L B l 2 || fitb L.sz B l (3 * L.gl l + 2))) with
  | false =>
    have : allb L.sz B (L.gl l) l (adr L B l 0) (adr L B l 1) (adr L B l 2) = false := by unfold allb; rw [hf]; simp
    rw [this]; exact ⟨s, rfl, hS, hB, FrK.rf⟩
  | true =>
    have hab : allb L.sz B (L.gl l) l (adr L B l 0) (adr L B l 1) (adr L B l 2) = (adr L B l 0 || adr L B l 1 || adr L B l 2) := by unfold allb; rw [hf]; simp
    simp only [if_true, hab]
    cases ho : (adr L B l 0 || adr L B l 1 || adr L B l 2) with
    | false =>
      have h0 : adr L B l 0 = false ∧ adr L B l 1 = false ∧ adr L B l 2 = false := by
        revert ho
        cases adr L B l 0 <;> cases adr L B l 1 <;> cases adr L B l 2 <;> decide
      rw [h0.1, h0.2.1, h0.2.2, if_neg (by decide)]
      exact ⟨s, rfl, hS, hB, FrK.rf⟩
    | true =>
      have hne : ¬ nI ((if adr L B l 0 then 1 else 0) + (if adr L B l 1 then 1 else 0) + (if adr L B l 2 then 1 else 0)) = 0 := by
        revert ho
        cases adr L B l 0 <;> cases adr L B l 1 <;> cases adr L B l 2 <;> decide
      rw [if_pos hne]
      obtain ⟨s1, e1, h1, h2, h3, h4⟩ := M_dlv_lp (kk := fun s152 => mm_lp (fun kk => lp_M_lookAt_192 (nI l) (nI (L.gl l)) kk FU 0 s152) fun s192 => mm_cV (f_M_learn (nI (L.gl l)) (nI l) 1 s192) fun s256 => mm_rv s256) wL hl (L.sz l) FU 0 s hS hL hv (by omega) (by unfold FU; omega)
      show ∃ s', lp_M_lookAt_152 (nI l) (nI (L.gl l)) _ FU (nI 0) s = _ ∧ _
      rw [e1]
      have f1 : FrK s s1 := fun F hF => ⟨h3 F (by omega), by rw [h4]⟩
      have hS1 : QS s1 L.sz S := hS.fr (h3 35 (by decide)) (h3 46 (by decide)) (h3 47 (by decide)) (h3 48 (by decide)) (h3 49 (by decide)) (h3 50 (by decide)) (h3 51 (by decide)) (h3 52 (by decide))
      have hL1 : QL s1 L := hL.fr f1
      have hB1 : QB s1 L.sz B := by
        refine ⟨fun l' j g1 g2 g3 => ?_, by rw [h3 53 (by decide)]; exact hB.quo, by rw [h3 54 (by decide)]; exact hB.cnt, by rw [h3 55 (by decide)]; exact hB.lie, by rw [h3 56 (by decide)]; exact hB.grp⟩
        have hne' : l' ≠ l := fun e => by rw [e, hdl] at g3; cases g3
        have := wL.s32 l'
        rw [h2 _ (by omega)]; exact hB.dlv l' j g1 g2 g3
      have hlen : ∀ b, (B.lies b).length < 16 := by
        intro b
        have h1 := wB.len b
        have h2 := cN_up (f := B.dl) (show l < 16 by omega) hdl
        have h3 := cN_le (u1 B.dl l true) 16
        omega
      have hlen' : ∀ {B' : Bxs} {a : Bool} {b : Nat}, (∀ x, (B'.lies x).length < 16) ∨ True → True := fun _ => trivial
      show ∃ s', lp_M_lookAt_192 (nI l) (nI (L.gl l)) (fun s192 => mm_cV (f_M_learn (nI (L.gl l)) (nI l) 1 s192) fun s256 => mm_rv s256) (99996 + 1 + 1 + 1 + 1) (nI 0) s1 = _ ∧ _
      have put16 : ∀ (B' : Bxs) (a : Bool) (b : Nat), (B'.lies b).length < 16 → (∀ x, (B'.lies x).length ≤ 16) → ∀ x, ((oPutIf B' a b l).lies x).length ≤ 16 := by
        intro B' a b g1 g2 x
        unfold oPutIf; split
        · show (u1 B'.lies b (B'.lies b ++ [l]) x).length ≤ 16
          by_cases e : x = b
          · rw [e, u1_at, List.length_append]; simp; omega
          · rw [u1_ne e]; exact g2 x
        · exact g2 x
      obtain ⟨s2, e2, q2, g2, g2'⟩ := M_put_lp (kk := fun s192 => mm_cV (f_M_learn (nI (L.gl l)) (nI l) 1 s192) fun s256 => mm_rv s256) (n := 99996 + 1 + 1 + 1) (j := 0) wL hl (by decide) hL1 hB1 (hlen _) (fun b => Nat.le_of_lt (hlen b))
      have f2 : FrK s1 s2 := fun F hF => ⟨g2 F (by omega) (by omega), by rw [g2']⟩
      have all2 := put16 B (adr L B l 0) (3 * L.gl l + 0) (hlen _) (fun b => Nat.le_of_lt (hlen b))
      obtain ⟨s3, e3, q3, g3, g3'⟩ := M_put_lp (kk := fun s192 => mm_cV (f_M_learn (nI (L.gl l)) (nI l) 1 s192) fun s256 => mm_rv s256) (n := 99996 + 1 + 1) (j := 1) wL hl (by decide) (hL1.fr f2) q2 (by rw [oPutIf_other (by omega)]; exact hlen _) all2
      have f3 : FrK s2 s3 := fun F hF => ⟨g3 F (by omega) (by omega), by rw [g3']⟩
      rw [adr_congr oPutIf_memb] at q3
      have all3 := put16 _ (adr L B l 1) (3 * L.gl l + 1) (by rw [oPutIf_other (by omega)]; exact hlen _) all2
      obtain ⟨s4, e4, q4, g4, g4'⟩ := M_put_lp (kk := fun s192 => mm_cV (f_M_learn (nI (L.gl l)) (nI l) 1 s192) fun s256 => mm_rv s256) (n := 99996 + 1) (j := 2) wL hl (by decide) ((hL1.fr f2).fr f3) q3 (by rw [oPutIf_other (by omega), oPutIf_other (by omega)]; exact hlen _) all3
      have f4 : FrK s3 s4 := fun F hF => ⟨g4 F (by omega) (by omega), by rw [g4']⟩
      rw [adr_congr (oPutIf_memb.trans oPutIf_memb)] at q4
      rw [e2, e3, e4, M_put3]
      have hS4 : QS s4 L.sz S := ((hS1.fr (g2 35 (by decide) (by decide)) (g2 46 (by decide) (by decide)) (g2 47 (by decide) (by decide)) (g2 48 (by decide) (by decide)) (g2 49 (by decide) (by decide)) (g2 50 (by decide) (by decide)) (g2 51 (by decide) (by decide)) (g2 52 (by decide) (by decide))).fr (g3 35 (by decide) (by decide)) (g3 46 (by decide) (by decide)) (g3 47 (by decide) (by decide)) (g3 48 (by decide) (by decide)) (g3 49 (by decide) (by decide)) (g3 50 (by decide) (by decide)) (g3 51 (by decide) (by decide)) (g3 52 (by decide) (by decide))).fr (g4 35 (by decide) (by decide)) (g4 46 (by decide) (by decide)) (g4 47 (by decide) (by decide)) (g4 48 (by decide) (by decide)) (g4 49 (by decide) (by decide)) (g4 50 (by decide) (by decide)) (g4 51 (by decide) (by decide)) (g4 52 (by decide) (by decide))
      obtain ⟨s5, e5, h5, f5⟩ := M_learn (w := 1) hS4 (show L.gl l < 12 by omega) (show l < 16 by omega) (by decide)
      rw [show (1 : Int32) = nI 1 from rfl, e5, cV_ok]
      refine ⟨s5, rfl, h5, ?_, f1.tr (f2.tr (f3.tr (f4.tr (FrK.q f5))))⟩
      have q5 := q4.frq f5
      refine ⟨fun l' j g1' g2' g3' => ?_, q5.quo, q5.cnt, q5.lie, q5.grp⟩
      have e45 : s5.1 45 = s1.1 45 := ((f5 45 (by omega)).1.trans (g4 45 (by decide) (by decide))).trans ((g3 45 (by decide) (by decide)).trans (g2 45 (by decide) (by decide)))
      rw [e45]
      show _ = nI (if l' = l then S.bt (L.gl l) l j else B.dlv l' j)
      by_cases e : l' = l
      · rw [if_pos e, e]; rw [e] at g2'; exact h1 j (Nat.zero_le _) g2'
      · rw [if_neg e]
        have h3' : u1 B.dl l true l' = true := g3'
        rw [u1_ne e] at h3'
        exact hB1.dlv l' j g1' g2' h3'
end

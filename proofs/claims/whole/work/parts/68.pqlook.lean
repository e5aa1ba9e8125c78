def FrK (s s' : Mem) : Prop := ∀ F, (F ≠ 35 ∧ (F < 45 ∨ 55 < F)) → s'.1 F = s.1 F ∧ s'.2 F = s.2 F
theorem FrK.rf {s : Mem} : FrK s s := fun _ _ => ⟨rfl, rfl⟩
theorem FrK.tr {a b c : Mem} (h : FrK a b) (g : FrK b c) : FrK a c := fun F hF => ⟨(g F hF).1.trans (h F hF).1, (g F hF).2.trans (h F hF).2⟩
theorem FrK.q {a b : Mem} (h : FrQ a b) : FrK a b := fun F hF => h F (by omega)
theorem FrK.wI {s : Mem} {F i k : Nat} {v : Int32} (h : 45 ≤ F ∧ F ≤ 55) : FrK s (mm_wI s F i k v) := fun F' hF => ⟨wI_ne (by omega), rfl⟩
theorem QL.fr {s s' : Mem} {L : Lts} (h : QL s L) (f : FrK s s') : QL s' L :=
  ⟨by rw [(f 30 (by omega)).1]; exact h.n, by rw [(f 36 (by omega)).1]; exact h.sz, by rw [(f 37 (by omega)).1]; exact h.srt, by rw [(f 38 (by omega)).1]; exact h.org, by rw [(f 39 (by omega)).1]; exact h.gl, by rw [(f 40 (by omega)).1]; exact h.ad, by rw [(f 41 (by omega)).1]; exact h.ps, by rw [(f 42 (by omega)).1]; exact h.sm, by rw [(f 43 (by omega)).1]; exact h.pr, by rw [(f 44 (by omega)).1]; exact h.ex⟩
theorem QB.frq {s s' : Mem} {sz : Nat → Nat} {B : Bxs} (h : QB s sz B) (f : FrQ s s') : QB s' sz B :=
  ⟨by rw [(f 45 (by omega)).1]; exact h.dlv, by rw [(f 53 (by omega)).1]; exact h.quo, by rw [(f 54 (by omega)).1]; exact h.cnt, by rw [(f 55 (by omega)).1]; exact h.lie, by rw [(f 56 (by omega)).1]; exact h.grp⟩
theorem QS.fr {s s' : Mem} {sz : Nat → Nat} {S : Sto} (h : QS s sz S) (e35 : s'.1 35 = s.1 35) (e46 : s'.1 46 = s.1 46) (e47 : s'.1 47 = s.1 47) (e48 : s'.1 48 = s.1 48) (e49 : s'.1 49 = s.1 49) (e50 : s'.1 50 = s.1 50) (e51 : s'.1 51 = s.1 51) (e52 : s'.1 52 = s.1 52) : QS s' sz S :=
  ⟨by rw [e35]; exact h.hel, by rw [e46]; exact h.cop, by rw [e47]; exact h.hop, by rw [e48]; exact h.new, by rw [e49]; exact h.byt, by rw [e50]; exact h.kno, by rw [e51]; exact h.exl, by rw [e52]; exact h.ref, h.hlt, h.nlt, h.vcp, h.szl⟩
theorem QS.wI {s : Mem} {sz : Nat → Nat} {S : Sto} (h : QS s sz S) {F i k : Nat} {v : Int32} (hF : F ≠ 35 ∧ (F < 46 ∨ 52 < F)) : QS (mm_wI s F i k v) sz S :=
  h.fr (wI_ne (by omega)) (wI_ne (by omega)) (wI_ne (by omega)) (wI_ne (by omega)) (wI_ne (by omega)) (wI_ne (by omega)) (wI_ne (by omega)) (wI_ne (by omega))
section
variable {s : Mem} {L : Lts} {S : Sto} {B : Bxs} {l : Nat}
theorem M_pieces (hL : QL s L) (wL : WL L) (hl : l < L.n) : f_M_pieces (nI l) s = mm_ri (nI (pc (L.sz l))) s := by
  have h16 := wL.n16
  have hs32 := wL.s32 l
  unfold f_M_pieces pc
  rw [ld_ok (by omega) (by omega), hL.sz l hl]
  congr 1
  rw [show nI (L.sz l) + 7 = nI (L.sz l + 7) by simp (disch := omega) only [qI_lit, qI_m1, qI_add, qI_mul, qI_le, qI_lt, qI_inj, qI_ne_m, m_ne_nI, m_lt_nI, m_le_nI, qI_lt_m, qI_le_m, qI_sub, qI_div, qI_rem, bI_0, bI_1], show (8 : Int32) = nI 8 from rfl, qI_div (by omega) (by omega)]
theorem M_complete_lp (hS : QS s L.sz S) (hL : QL s L) (wL : WL L) (hl : l < L.n) {kk : Mem → RR} : ∀ (m n p : Nat), p + m = pc (L.sz l) → m < n → lp_M_complete_2 (nI l) kk n (nI p) s = if (∀ q, q < pc (L.sz l) → p ≤ q → S.cp (L.gl l) (4 * l + q) = true) then kk s else mm_ri (nI 0) s := by
  have h16 := wL.n16
  have hs32 := wL.s32 l
  have hg := wL.gl l hl
  have hpc : pc (L.sz l) ≤ 4 := by unfold pc; omega
  intro m
  induction m with
  | zero =>
    intro n p hp hn
    obtain ⟨n, rfl⟩ : ∃ n', n = n' + 1 := ⟨n - 1, by omega⟩
    unfold lp_M_complete_2
    rw [M_pieces hL wL hl, cI_ok, if_pos (by simp (disch := omega) only [qI_lit, qI_m1, qI_add, qI_mul, qI_le, qI_lt, qI_inj, qI_ne_m, m_ne_nI, m_lt_nI, m_le_nI, qI_lt_m, qI_le_m, qI_sub, qI_div, qI_rem, bI_0, bI_1]; omega), if_pos (fun q h1 h2 => by omega)]
  | succ m ih =>
    intro n p hp hn
    obtain ⟨n, rfl⟩ : ∃ n', n = n' + 1 := ⟨n - 1, by omega⟩
    unfold lp_M_complete_2
    have e2 : nI p + 1 = nI (p + 1) := by simp (disch := omega) only [qI_lit, qI_m1, qI_add, qI_mul, qI_le, qI_lt, qI_inj, qI_ne_m, m_ne_nI, m_lt_nI, m_le_nI, qI_lt_m, qI_le_m, qI_sub, qI_div, qI_rem, bI_0, bI_1]
    rw [M_pieces hL wL hl, cI_ok, if_neg (by simp (disch := omega) only [qI_lit, qI_m1, qI_add, qI_mul, qI_le, qI_lt, qI_inj, qI_ne_m, m_ne_nI, m_lt_nI, m_le_nI, qI_lt_m, qI_le_m, qI_sub, qI_div, qI_rem, bI_0, bI_1]; omega), ld_ok (by omega) (by omega), hL.gl l hl, M_at, cI_ok, ld_ok (by omega) (by omega), show 64 * L.gl l + 4 * l + p = 64 * L.gl l + (4 * l + p) by omega, hS.cop _ _ (by omega) (by omega), e2]
    cases hc : S.cp (L.gl l) (4 * l + p) with
    | false =>
      rw [if_neg (by decide), if_neg (fun h9 => by rw [h9 p (by omega) (Nat.le_refl _)] at hc; cases hc)]; rfl
    | true =>
      rw [if_pos (by decide), ih n (p + 1) (by omega) (by omega)]
      have : (∀ q, q < pc (L.sz l) → p + 1 ≤ q → S.cp (L.gl l) (4 * l + q) = true) ↔ (∀ q, q < pc (L.sz l) → p ≤ q → S.cp (L.gl l) (4 * l + q) = true) := by
        constructor
        · intro h q h1 h2
          by_cases e : q = p
          · rw [e]; exact hc
          · exact h q h1 (by omega)
        · intro h q h1 h2; exact h q h1 (by omega)
      by_cases h9 : (∀ q, q < pc (L.sz l) → p ≤ q → S.cp (L.gl l) (4 * l + q) = true)
      · rw [if_pos h9, if_pos (this.mpr h9)]
      · rw [if_neg h9, if_neg (fun h => h9 (this.mp h))]
theorem M_complete (hS : QS s L.sz S) (hL : QL s L) (wL : WL L) (hl : l < L.n) : f_M_complete (nI l) s = mm_ri (bI (decide (comp L S l))) s := by
  have hs32 := wL.s32 l
  unfold f_M_complete
  show lp_M_complete_2 (nI l) (fun s2 => mm_rz 1 s2) FU (nI 0) s = _
  rw [M_complete_lp hS hL wL hl (pc (L.sz l)) FU 0 (by omega) (by unfold FU pc; omega)]
  by_cases h : comp L S l
  · rw [if_pos (fun q h2 _ => h q h2), decide_eq_true h]; rfl
  · rw [if_neg (fun h9 => h (fun q h2 => h9 q h2 (Nat.zero_le _))), decide_eq_false h]; rfl
theorem M_byteOf (hS : QS s L.sz S) {g j : Nat} (hg : g < 12) (hl : l < 16) (hj : j < L.sz l) (hv : S.vb g (4 * l + j / 8) = true) : f_M_byteOf (nI g) (nI l) (nI j) s = mm_ri (nI (S.bt g l j)) s := by
  have := hS.szl l
  unfold f_M_byteOf
  rw [show (8 : Int32) = nI 8 from rfl, qI_div (by omega) (by omega), qI_rem (by omega) (by omega), M_at, cI_ok]
  rw [show nI 8 * nI (64 * g + 4 * l + j / 8) + nI (j % 8) = nI (512 * g + 32 * l + j) by simp only [qI_mul, qI_add]; congr 1; omega]
  rw [ld_ok (by omega) (by omega), hS.byt g l j hg hl hj hv]
theorem M_sum_lp (hS : QS s L.sz S) (hL : QL s L) (wL : WL L) (hl : l < L.n) (hv : ∀ j, j < L.sz l → S.vb (L.gl l) (4 * l + j / 8) = true) {kk : Int32 → Mem → RR} : ∀ (m n j : Nat), j + m = L.sz l → m < n → lp_M_lookAt_21 (nI l) (nI (L.gl l)) kk n (sumF (S.bt (L.gl l) l) j) (nI j) s = kk (sumF (S.bt (L.gl l) l) (L.sz l)) s := by
  have h16 := wL.n16
  have hs32 := wL.s32 l
  have hg := wL.gl l hl
  intro m
  induction m with
  | zero =>
    intro n j hp hn
    obtain ⟨n, rfl⟩ : ∃ n', n = n' + 1 := ⟨n - 1, by omega⟩
    unfold lp_M_lookAt_21
    rw [ld_ok (by omega) (by omega), hL.sz l hl, if_pos (by simp (disch := omega) only [qI_lit, qI_m1, qI_add, qI_mul, qI_le, qI_lt, qI_inj, qI_ne_m, m_ne_nI, m_lt_nI, m_le_nI, qI_lt_m, qI_le_m, qI_sub, qI_div, qI_rem, bI_0, bI_1]; omega), show j = L.sz l by omega]
  | succ m ih =>
    intro n j hp hn
    obtain ⟨n, rfl⟩ : ∃ n', n = n' + 1 := ⟨n - 1, by omega⟩
    unfold lp_M_lookAt_21
    rw [ld_ok (by omega) (by omega), hL.sz l hl, if_neg (by simp (disch := omega) only [qI_lit, qI_m1, qI_add, qI_mul, qI_le, qI_lt, qI_inj, qI_ne_m, m_ne_nI, m_lt_nI, m_le_nI, qI_lt_m, qI_le_m, qI_sub, qI_div, qI_rem, bI_0, bI_1]; omega)]
    unfold f_M_turned
    rw [cI_ok, M_byteOf hS (by omega) (by omega) (by omega) (hv j (by omega)), cI_ok]
    have e : nI j + 1 = nI (j + 1) := by simp (disch := omega) only [qI_lit, qI_m1, qI_add, qI_mul, qI_le, qI_lt, qI_inj, qI_ne_m, m_ne_nI, m_lt_nI, m_le_nI, qI_lt_m, qI_le_m, qI_sub, qI_div, qI_rem, bI_0, bI_1]
    rw [e]
    exact ih n (j + 1) (by omega) (by omega)
theorem M_isFor (hL : QL s L) (hB : QB s L.sz B) (wL : WL L) (hl : l < L.n) {b : Nat} (hb : b < 3) : f_M_isFor (nI l) (nI b) s = mm_ri (bI (adr L B l b)) s := by
  have h16 := wL.n16
  have hg := wL.gl l hl
  have ha := wL.ad l hl
  unfold f_M_isFor adr
  rw [ld_ok (by omega) (by omega), hL.ad l hl]
  by_cases h3 : L.ad l < 3
  · rw [if_neg (by simp (disch := omega) only [qI_lit, qI_m1, qI_add, qI_mul, qI_le, qI_lt, qI_inj, qI_ne_m, m_ne_nI, m_lt_nI, m_le_nI, qI_lt_m, qI_le_m, qI_sub, qI_div, qI_rem, bI_0, bI_1]; omega), if_pos h3, ld_ok (by omega) (by omega), hL.ad l hl]
    by_cases e : L.ad l = b
    · rw [if_neg (by simp (disch := omega) only [qI_lit, qI_m1, qI_add, qI_mul, qI_le, qI_lt, qI_inj, qI_ne_m, m_ne_nI, m_lt_nI, m_le_nI, qI_lt_m, qI_le_m, qI_sub, qI_div, qI_rem, bI_0, bI_1]; exact fun h => h e), e]; simp [bI, rz_1]; rfl
    · rw [if_pos (by simp (disch := omega) only [qI_lit, qI_m1, qI_add, qI_mul, qI_le, qI_lt, qI_inj, qI_ne_m, m_ne_nI, m_lt_nI, m_le_nI, qI_lt_m, qI_le_m, qI_sub, qI_div, qI_rem, bI_0, bI_1]; exact e)]
      have : (L.ad l == b) = false := by simpa using e
      rw [this]; rfl
  · rw [if_pos (by simp (disch := omega) only [qI_lit, qI_m1, qI_add, qI_mul, qI_le, qI_lt, qI_inj, qI_ne_m, m_ne_nI, m_lt_nI, m_le_nI, qI_lt_m, qI_le_m, qI_sub, qI_div, qI_rem, bI_0, bI_1]; omega), if_neg h3, ld_ok (by omega) (by omega), hL.gl l hl, ld_ok (by omega) (by omega), hL.ad l hl]
    rw [show 6 * nI (L.gl l) + 3 * (nI (L.ad l) - 3) + nI b = nI (6 * L.gl l + 3 * (L.ad l - 3) + b) by rw [show nI (L.ad l) - 3 = nI (L.ad l - 3) by simp (disch := omega) only [qI_lit, qI_m1, qI_add, qI_mul, qI_le, qI_lt, qI_inj, qI_ne_m, m_ne_nI, m_lt_nI, m_le_nI, qI_lt_m, qI_le_m, qI_sub, qI_div, qI_rem, bI_0, bI_1]]; simp only [qI_lit, qI_mul, qI_add]]
    rw [ld_ok (by omega) (by omega), hB.grp _ _ _ hg (by omega) hb, rz_b]
theorem M_bytesIn_lp (hL : QL s L) (hB : QB s L.sz B) (wL : WL L) (wB : WB' L B) {b : Nat} (hb : b < 24) {kk : Int32 → Mem → RR} : ∀ (m n j : Nat), j + m = (B.lies b).length → m < n → lp_M_bytesIn_4 (nI b) kk n (nI (byS L.sz ((B.lies b).take j))) (nI j) s = kk (nI (byS L.sz (B.lies b))) s := by
  have h16 := wL.n16
  have hlen := wB.len b
  have hc16 := cN_le B.dl 16
  intro m
  induction m with
  | zero =>
    intro n j hp hn
    obtain ⟨n, rfl⟩ : ∃ n', n = n' + 1 := ⟨n - 1, by omega⟩
    unfold lp_M_bytesIn_4
    rw [ld_ok (by omega) (by omega), hB.cnt b hb, if_pos (by simp (disch := omega) only [qI_lit, qI_m1, qI_add, qI_mul, qI_le, qI_lt, qI_inj, qI_ne_m, m_ne_nI, m_lt_nI, m_le_nI, qI_lt_m, qI_le_m, qI_sub, qI_div, qI_rem, bI_0, bI_1]; omega), List.take_of_length_le (by omega)]
  | succ m ih =>
    intro n j hp hn
    obtain ⟨n, rfl⟩ : ∃ n', n = n' + 1 := ⟨n - 1, by omega⟩
    unfold lp_M_bytesIn_4
    have hj : j < (B.lies b).length := by omega
    have hx : (B.lies b)[j]? = some (B.lies b)[j] := List.getElem?_eq_getElem hj
    have hxn := (wB.mem b _ (List.mem_of_getElem? hx)).1
    have e0 : 16 * nI b + nI j = nI (16 * b + j) := by simp only [qI_lit, qI_mul, qI_add]
    rw [ld_ok (by omega) (by omega), hB.cnt b hb, if_neg (by simp (disch := omega) only [qI_lit, qI_m1, qI_add, qI_mul, qI_le, qI_lt, qI_inj, qI_ne_m, m_ne_nI, m_lt_nI, m_le_nI, qI_lt_m, qI_le_m, qI_sub, qI_div, qI_rem, bI_0, bI_1]; omega), e0, ld_ok (by omega) (by omega), hB.lie b j _ hb hx, ld_ok (by omega) (by omega), hL.sz _ hxn, qI_add]
    have e1 : byS L.sz ((B.lies b).take j) + L.sz (B.lies b)[j] = byS L.sz ((B.lies b).take (j + 1)) := by
      rw [List.take_add_one, hx]; exact (byS_app _ _ _).symm
    have e : nI j + 1 = nI (j + 1) := by simp (disch := omega) only [qI_lit, qI_m1, qI_add, qI_mul, qI_le, qI_lt, qI_inj, qI_ne_m, m_ne_nI, m_lt_nI, m_le_nI, qI_lt_m, qI_le_m, qI_sub, qI_div, qI_rem, bI_0, bI_1]
    rw [e, e1]
    exact ih n (j + 1) (by omega) (by omega)
theorem M_bytesIn (hL : QL s L) (hB : QB s L.sz B) (wL : WL L) (wB : WB' L B) {b : Nat} (hb : b < 24) : f_M_bytesIn (nI b) s = mm_ri (nI (byS L.sz (B.lies b))) s := by
  unfold f_M_bytesIn
  have h1 := wB.len b
  have h2 := cN_le B.dl 16
  exact M_bytesIn_lp (kk := fun x s => mm_ri x s) hL hB wL wB hb (B.lies b).length FU 0 (by omega) (by unfold FU; omega)
end

-- letters and boxes
abbrev Lts : Type := (Nat) × (Nat → Nat) × (Nat → Nat) × (Nat → Nat) × (Nat → Nat) × (Nat → Nat) × (Nat → Nat) × (Nat → Int32) × (Nat → Int32) × (Nat → Bool)
abbrev Lts.n (x : Lts) : Nat := x.1
abbrev Lts.sz (x : Lts) : Nat → Nat := x.2.1
abbrev Lts.srt (x : Lts) : Nat → Nat := x.2.2.1
abbrev Lts.org (x : Lts) : Nat → Nat := x.2.2.2.1
abbrev Lts.gl (x : Lts) : Nat → Nat := x.2.2.2.2.1
abbrev Lts.ad (x : Lts) : Nat → Nat := x.2.2.2.2.2.1
abbrev Lts.ps (x : Lts) : Nat → Nat := x.2.2.2.2.2.2.1
abbrev Lts.sm (x : Lts) : Nat → Int32 := x.2.2.2.2.2.2.2.1
abbrev Lts.pr (x : Lts) : Nat → Int32 := x.2.2.2.2.2.2.2.2.1
abbrev Lts.ex (x : Lts) : Nat → Bool := x.2.2.2.2.2.2.2.2.2
abbrev mkLts (n : Nat) (sz : Nat → Nat) (srt : Nat → Nat) (org : Nat → Nat) (gl : Nat → Nat) (ad : Nat → Nat) (ps : Nat → Nat) (sm : Nat → Int32) (pr : Nat → Int32) (ex : Nat → Bool) : Lts := (n, sz, srt, org, gl, ad, ps, sm, pr, ex)
abbrev Bxs : Type := (Nat → Option Nat) × (Nat → List Nat) × (Nat → Nat → Nat → Bool) × (Nat → Bool) × (Nat → Nat → Nat)
abbrev Bxs.quo (x : Bxs) : Nat → Option Nat := x.1
abbrev Bxs.lies (x : Bxs) : Nat → List Nat := x.2.1
abbrev Bxs.memb (x : Bxs) : Nat → Nat → Nat → Bool := x.2.2.1
abbrev Bxs.dl (x : Bxs) : Nat → Bool := x.2.2.2.1
abbrev Bxs.dlv (x : Bxs) : Nat → Nat → Nat := x.2.2.2.2
abbrev mkBxs (quo : Nat → Option Nat) (lies : Nat → List Nat) (memb : Nat → Nat → Nat → Bool) (dl : Nat → Bool) (dlv : Nat → Nat → Nat) : Bxs := (quo, lies, memb, dl, dlv)
def qv (q : Option Nat) : Int32 := match q with
  | none => mone
  | some q => nI q
def byS (sz : Nat → Nat) (xs : List Nat) : Nat := (xs.map sz).sum
def mk3 (a b c : Bool) : Nat := (if a then 1 else 0) + (if b then 2 else 0) + (if c then 4 else 0)
def pc (n : Nat) : Nat := (n + 7) / 8
def WL (L : Lts) : Prop := (L.n ≤ 16) ∧ (∀ l, l < L.n → 1 ≤ L.sz l) ∧ (∀ l, L.sz l ≤ 32) ∧ (∀ l, l < L.n → L.srt l < 3) ∧ (∀ l, l < L.n → L.org l < 8) ∧ (∀ l, l < L.n → L.gl l < 8) ∧ (∀ l, l < L.n → L.ad l < 5)
theorem WL.n16 {L : Lts} (h : WL L) : L.n ≤ 16 := h.1
theorem WL.s1 {L : Lts} (h : WL L) : ∀ l, l < L.n → 1 ≤ L.sz l := h.2.1
theorem WL.s32 {L : Lts} (h : WL L) : ∀ l, L.sz l ≤ 32 := h.2.2.1
theorem WL.srt {L : Lts} (h : WL L) : ∀ l, l < L.n → L.srt l < 3 := h.2.2.2.1
theorem WL.org {L : Lts} (h : WL L) : ∀ l, l < L.n → L.org l < 8 := h.2.2.2.2.1
theorem WL.gl {L : Lts} (h : WL L) : ∀ l, l < L.n → L.gl l < 8 := h.2.2.2.2.2.1
theorem WL.ad {L : Lts} (h : WL L) : ∀ l, l < L.n → L.ad l < 5 := h.2.2.2.2.2.2
def RL (s : Mem) (now : Nat) (L : Lts) : Prop := (s.1 0 0 7 = nI L.n) ∧ (∀ l, l < L.n → s.1 19 l 0 = nI (L.org l)) ∧ (∀ l, l < L.n → s.1 19 l 1 = nI (L.gl l)) ∧ (∀ l, l < L.n → s.1 19 l 2 = nI (L.ad l)) ∧ (∀ l, l < L.n → s.1 19 l 3 = nI (L.srt l)) ∧ (∀ l, l < L.n → s.1 19 l 4 = nI (L.ps l)) ∧ (∀ l, l < L.n → s.1 19 l 5 = L.pr l) ∧ (∀ l, l < L.n → s.1 19 l 6 = nI (L.sz l)) ∧ (∀ l, l < L.n → s.1 19 l 7 = L.sm l) ∧ (∀ l, l < 16 → s.1 19 l 8 = bI (decide (l < L.n ∧ L.ps l + 7200 ≤ now))) ∧ (∀ l, l < 16 → s.1 19 l 9 = bI (L.ex l))
theorem RL.n {s : Mem} {now : Nat} {L : Lts} (h : RL s now L) : s.1 0 0 7 = nI L.n := h.1
theorem RL.org {s : Mem} {now : Nat} {L : Lts} (h : RL s now L) : ∀ l, l < L.n → s.1 19 l 0 = nI (L.org l) := h.2.1
theorem RL.gl {s : Mem} {now : Nat} {L : Lts} (h : RL s now L) : ∀ l, l < L.n → s.1 19 l 1 = nI (L.gl l) := h.2.2.1
theorem RL.ad {s : Mem} {now : Nat} {L : Lts} (h : RL s now L) : ∀ l, l < L.n → s.1 19 l 2 = nI (L.ad l) := h.2.2.2.1
theorem RL.srt {s : Mem} {now : Nat} {L : Lts} (h : RL s now L) : ∀ l, l < L.n → s.1 19 l 3 = nI (L.srt l) := h.2.2.2.2.1
theorem RL.ps {s : Mem} {now : Nat} {L : Lts} (h : RL s now L) : ∀ l, l < L.n → s.1 19 l 4 = nI (L.ps l) := h.2.2.2.2.2.1
theorem RL.pr {s : Mem} {now : Nat} {L : Lts} (h : RL s now L) : ∀ l, l < L.n → s.1 19 l 5 = L.pr l := h.2.2.2.2.2.2.1
theorem RL.sz {s : Mem} {now : Nat} {L : Lts} (h : RL s now L) : ∀ l, l < L.n → s.1 19 l 6 = nI (L.sz l) := h.2.2.2.2.2.2.2.1
theorem RL.sm {s : Mem} {now : Nat} {L : Lts} (h : RL s now L) : ∀ l, l < L.n → s.1 19 l 7 = L.sm l := h.2.2.2.2.2.2.2.2.1
theorem RL.ov {s : Mem} {now : Nat} {L : Lts} (h : RL s now L) : ∀ l, l < 16 → s.1 19 l 8 = bI (decide (l < L.n ∧ L.ps l + 7200 ≤ now)) := h.2.2.2.2.2.2.2.2.2.1
theorem RL.ex {s : Mem} {now : Nat} {L : Lts} (h : RL s now L) : ∀ l, l < 16 → s.1 19 l 9 = bI (L.ex l) := h.2.2.2.2.2.2.2.2.2.2
def QL (s : Mem) (L : Lts) : Prop := (s.1 30 0 7 = nI L.n) ∧ (∀ l, l < L.n → s.1 36 0 l = nI (L.sz l)) ∧ (∀ l, l < L.n → s.1 37 0 l = nI (L.srt l)) ∧ (∀ l, l < L.n → s.1 38 0 l = nI (L.org l)) ∧ (∀ l, l < L.n → s.1 39 0 l = nI (L.gl l)) ∧ (∀ l, l < L.n → s.1 40 0 l = nI (L.ad l)) ∧ (∀ l, l < L.n → s.1 41 0 l = nI (L.ps l)) ∧ (∀ l, l < L.n → s.1 42 0 l = L.sm l) ∧ (∀ l, l < L.n → s.1 43 0 l = L.pr l) ∧ (∀ l, l < 16 → s.1 44 0 l = bI (L.ex l))
theorem QL.n {s : Mem} {L : Lts} (h : QL s L) : s.1 30 0 7 = nI L.n := h.1
theorem QL.sz {s : Mem} {L : Lts} (h : QL s L) : ∀ l, l < L.n → s.1 36 0 l = nI (L.sz l) := h.2.1
theorem QL.srt {s : Mem} {L : Lts} (h : QL s L) : ∀ l, l < L.n → s.1 37 0 l = nI (L.srt l) := h.2.2.1
theorem QL.org {s : Mem} {L : Lts} (h : QL s L) : ∀ l, l < L.n → s.1 38 0 l = nI (L.org l) := h.2.2.2.1
theorem QL.gl {s : Mem} {L : Lts} (h : QL s L) : ∀ l, l < L.n → s.1 39 0 l = nI (L.gl l) := h.2.2.2.2.1
theorem QL.ad {s : Mem} {L : Lts} (h : QL s L) : ∀ l, l < L.n → s.1 40 0 l = nI (L.ad l) := h.2.2.2.2.2.1
theorem QL.ps {s : Mem} {L : Lts} (h : QL s L) : ∀ l, l < L.n → s.1 41 0 l = nI (L.ps l) := h.2.2.2.2.2.2.1
theorem QL.sm {s : Mem} {L : Lts} (h : QL s L) : ∀ l, l < L.n → s.1 42 0 l = L.sm l := h.2.2.2.2.2.2.2.1
theorem QL.pr {s : Mem} {L : Lts} (h : QL s L) : ∀ l, l < L.n → s.1 43 0 l = L.pr l := h.2.2.2.2.2.2.2.2.1
theorem QL.ex {s : Mem} {L : Lts} (h : QL s L) : ∀ l, l < 16 → s.1 44 0 l = bI (L.ex l) := h.2.2.2.2.2.2.2.2.2
def WB' (L : Lts) (B : Bxs) : Prop := (∀ b, (B.lies b).length ≤ cN B.dl 16) ∧ (∀ b x, x ∈ B.lies b → x < L.n ∧ B.dl x = true) ∧ (∀ b q, B.quo b = some q → q ≤ 200)
theorem WB'.len {L : Lts} {B : Bxs} (h : WB' L B) : ∀ b, (B.lies b).length ≤ cN B.dl 16 := h.1
theorem WB'.mem {L : Lts} {B : Bxs} (h : WB' L B) : ∀ b x, x ∈ B.lies b → x < L.n ∧ B.dl x = true := h.2.1
theorem WB'.q200 {L : Lts} {B : Bxs} (h : WB' L B) : ∀ b q, B.quo b = some q → q ≤ 200 := h.2.2
def RB (s : Mem) (sz : Nat → Nat) (B : Bxs) : Prop := (∀ g t, g < 8 → t < 2 → s.1 15 g t = nI (mk3 (B.memb g t 0) (B.memb g t 1) (B.memb g t 2))) ∧ (∀ b, b < 24 → s.1 16 b 1 = nI (B.lies b).length) ∧ (∀ b, b < 24 → s.1 16 b 2 = nI (byS sz (B.lies b))) ∧ (∀ b, b < 24 → s.1 16 b 3 = qv (B.quo b)) ∧ (∀ b j x, b < 24 → (B.lies b)[j]? = some x → s.1 17 b j = nI x) ∧ (∀ l j, l < 16 → j < sz l → B.dl l = true → bytI (s.2 20 l (j / 8)) (j % 8) = nI (B.dlv l j))
theorem RB.grp {s : Mem} {sz : Nat → Nat} {B : Bxs} (h : RB s sz B) : ∀ g t, g < 8 → t < 2 → s.1 15 g t = nI (mk3 (B.memb g t 0) (B.memb g t 1) (B.memb g t 2)) := h.1
theorem RB.cnt {s : Mem} {sz : Nat → Nat} {B : Bxs} (h : RB s sz B) : ∀ b, b < 24 → s.1 16 b 1 = nI (B.lies b).length := h.2.1
theorem RB.byt {s : Mem} {sz : Nat → Nat} {B : Bxs} (h : RB s sz B) : ∀ b, b < 24 → s.1 16 b 2 = nI (byS sz (B.lies b)) := h.2.2.1
theorem RB.quo {s : Mem} {sz : Nat → Nat} {B : Bxs} (h : RB s sz B) : ∀ b, b < 24 → s.1 16 b 3 = qv (B.quo b) := h.2.2.2.1
theorem RB.lie {s : Mem} {sz : Nat → Nat} {B : Bxs} (h : RB s sz B) : ∀ b j x, b < 24 → (B.lies b)[j]? = some x → s.1 17 b j = nI x := h.2.2.2.2.1
theorem RB.dlv {s : Mem} {sz : Nat → Nat} {B : Bxs} (h : RB s sz B) : ∀ l j, l < 16 → j < sz l → B.dl l = true → bytI (s.2 20 l (j / 8)) (j % 8) = nI (B.dlv l j) := h.2.2.2.2.2
def QB (s : Mem) (sz : Nat → Nat) (B : Bxs) : Prop := (∀ l j, l < 16 → j < sz l → B.dl l = true → s.1 45 0 (32 * l + j) = nI (B.dlv l j)) ∧ (∀ b, b < 24 → s.1 53 0 b = qv (B.quo b)) ∧ (∀ b, b < 24 → s.1 54 0 b = nI (B.lies b).length) ∧ (∀ b j x, b < 24 → (B.lies b)[j]? = some x → s.1 55 0 (16 * b + j) = nI x) ∧ (∀ g t b, g < 8 → t < 2 → b < 3 → s.1 56 0 (6 * g + 3 * t + b) = bI (B.memb g t b))
theorem QB.dlv {s : Mem} {sz : Nat → Nat} {B : Bxs} (h : QB s sz B) : ∀ l j, l < 16 → j < sz l → B.dl l = true → s.1 45 0 (32 * l + j) = nI (B.dlv l j) := h.1
theorem QB.quo {s : Mem} {sz : Nat → Nat} {B : Bxs} (h : QB s sz B) : ∀ b, b < 24 → s.1 53 0 b = qv (B.quo b) := h.2.1
theorem QB.cnt {s : Mem} {sz : Nat → Nat} {B : Bxs} (h : QB s sz B) : ∀ b, b < 24 → s.1 54 0 b = nI (B.lies b).length := h.2.2.1
theorem QB.lie {s : Mem} {sz : Nat → Nat} {B : Bxs} (h : QB s sz B) : ∀ b j x, b < 24 → (B.lies b)[j]? = some x → s.1 55 0 (16 * b + j) = nI x := h.2.2.2.1
theorem QB.grp {s : Mem} {sz : Nat → Nat} {B : Bxs} (h : QB s sz B) : ∀ g t b, g < 8 → t < 2 → b < 3 → s.1 56 0 (6 * g + 3 * t + b) = bI (B.memb g t b) := h.2.2.2.2
-- the sum
def trn (x : Int32) : Int32 := (mm_ishl x 5) ||| (mm_iushr x 27)
def sumF (b : Nat → Nat) : Nat → Int32
  | 0 => 0
  | n + 1 => trn (sumF b n) ^^^ nI (b n)
section
variable {s : Mem} {i k l : Nat}
theorem X_byteAt {x : Int64} {j : Nat} : f_X_byteAt x (nI j) s = mm_ri (bytI x j) s := by
  unfold f_X_byteAt bytI
  rw [show 8 * nI j = nI (8 * j) by simp only [qI_lit, qI_mul]]
theorem X_piecesIn {n : Nat} (h : n < 1000) : f_X_piecesIn (nI n) s = mm_ri (nI (pc n)) s := by
  unfold f_X_piecesIn pc
  congr 1
  rw [show nI n + 8 - 1 = nI (n + 7) by simp (disch := omega) only [qI_lit, qI_m1, qI_add, qI_mul, qI_le, qI_lt, qI_inj, qI_ne_m, m_ne_nI, m_lt_nI, m_le_nI, qI_lt_m, qI_le_m, qI_sub, qI_div, qI_rem, bI_0, bI_1]; omega]
  rw [show (8 : Int32) = nI 8 from rfl, qI_div (by omega) (by omega)]
theorem X_sumOf20_lp {b : Nat → Nat} {N : Nat} (hN : N ≤ 32) (hb : ∀ j, j < N → bytI (s.2 20 l (j / 8)) (j % 8) = nI (b j)) {kk : Int32 → Mem → RR} : ∀ (m n j : Nat), j + m = N → m < n → lp_X_sumOf_20_4 l (nI N) kk n (sumF b j) (nI j) s = kk (sumF b N) s := by
  intro m
  induction m with
  | zero =>
    intro n j hp hn
    obtain ⟨n, rfl⟩ : ∃ n', n = n' + 1 := ⟨n - 1, by omega⟩
    unfold lp_X_sumOf_20_4
    rw [if_pos (by simp (disch := omega) only [qI_lit, qI_m1, qI_add, qI_mul, qI_le, qI_lt, qI_inj, qI_ne_m, m_ne_nI, m_lt_nI, m_le_nI, qI_lt_m, qI_le_m, qI_sub, qI_div, qI_rem, bI_0, bI_1]; omega), show j = N by omega]
  | succ m ih =>
    intro n j hp hn
    obtain ⟨n, rfl⟩ : ∃ n', n = n' + 1 := ⟨n - 1, by omega⟩
    unfold lp_X_sumOf_20_4
    rw [if_neg (by simp (disch := omega) only [qI_lit, qI_m1, qI_add, qI_mul, qI_le, qI_lt, qI_inj, qI_ne_m, m_ne_nI, m_lt_nI, m_le_nI, qI_lt_m, qI_le_m, qI_sub, qI_div, qI_rem, bI_0, bI_1]; omega), show (8 : Int32) = nI 8 from rfl, qI_div (by omega) (by omega), qI_rem (by omega) (by omega), ldj_ok (by omega) (by omega), X_byteAt, cI_ok, hb j (by omega)]
    have e : nI j + 1 = nI (j + 1) := by simp (disch := omega) only [qI_lit, qI_m1, qI_add, qI_mul, qI_le, qI_lt, qI_inj, qI_ne_m, m_ne_nI, m_lt_nI, m_le_nI, qI_lt_m, qI_le_m, qI_sub, qI_div, qI_rem, bI_0, bI_1]
    rw [e]
    exact ih n (j + 1) (by omega) (by omega)
theorem X_sumOf20 {b : Nat → Nat} {N : Nat} (hN : N ≤ 32) (hb : ∀ j, j < N → bytI (s.2 20 l (j / 8)) (j % 8) = nI (b j)) : f_X_sumOf_20 l (nI N) s = mm_ri (sumF b N) s := by
  unfold f_X_sumOf_20
  exact X_sumOf20_lp (kk := fun x s => mm_ri x s) hN hb N FU 0 (by omega) (by unfold FU; omega)
theorem X_sumOf21_lp {b : Nat → Nat} {N : Nat} (hN : N ≤ 32) (hb : ∀ j, j < N → bytI (s.2 21 0 (j / 8)) (j % 8) = nI (b j)) {kk : Int32 → Mem → RR} : ∀ (m n j : Nat), j + m = N → m < n → lp_X_sumOf_21_4 (nI N) kk n (sumF b j) (nI j) s = kk (sumF b N) s := by
  intro m
  induction m with
  | zero =>
    intro n j hp hn
    obtain ⟨n, rfl⟩ : ∃ n', n = n' + 1 := ⟨n - 1, by omega⟩
    unfold lp_X_sumOf_21_4
    rw [if_pos (by simp (disch := omega) only [qI_lit, qI_m1, qI_add, qI_mul, qI_le, qI_lt, qI_inj, qI_ne_m, m_ne_nI, m_lt_nI, m_le_nI, qI_lt_m, qI_le_m, qI_sub, qI_div, qI_rem, bI_0, bI_1]; omega), show j = N by omega]
  | succ m ih =>
    intro n j hp hn
    obtain ⟨n, rfl⟩ : ∃ n', n = n' + 1 := ⟨n - 1, by omega⟩
    unfold lp_X_sumOf_21_4
    rw [if_neg (by simp (disch := omega) only [qI_lit, qI_m1, qI_add, qI_mul, qI_le, qI_lt, qI_inj, qI_ne_m, m_ne_nI, m_lt_nI, m_le_nI, qI_lt_m, qI_le_m, qI_sub, qI_div, qI_rem, bI_0, bI_1]; omega), show (8 : Int32) = nI 8 from rfl, qI_div (by omega) (by omega), qI_rem (by omega) (by omega), ldj_ok (by omega) (by omega), X_byteAt, cI_ok, hb j (by omega)]
    have e : nI j + 1 = nI (j + 1) := by simp (disch := omega) only [qI_lit, qI_m1, qI_add, qI_mul, qI_le, qI_lt, qI_inj, qI_ne_m, m_ne_nI, m_lt_nI, m_le_nI, qI_lt_m, qI_le_m, qI_sub, qI_div, qI_rem, bI_0, bI_1]
    rw [e]
    exact ih n (j + 1) (by omega) (by omega)
theorem X_sumOf21 {b : Nat → Nat} {N : Nat} (hN : N ≤ 32) (hb : ∀ j, j < N → bytI (s.2 21 0 (j / 8)) (j % 8) = nI (b j)) : f_X_sumOf_21 (nI N) s = mm_ri (sumF b N) s := by
  unfold f_X_sumOf_21
  exact X_sumOf21_lp (kk := fun x s => mm_ri x s) hN hb N FU 0 (by omega) (by unfold FU; omega)
end
-- the box that a letter is for
def adr (L : Lts) (B : Bxs) (l b : Nat) : Bool := if L.ad l < 3 then L.ad l == b else B.memb (L.gl l) (L.ad l - 3) b
def fitB (L : Lts) (B : Bxs) (l b : Nat) : Bool := match B.quo (3 * L.gl l + b) with
  | none => false
  | some q => decide (byS L.sz (B.lies (3 * L.gl l + b)) + L.sz l ≤ q)
def allB (L : Lts) (B : Bxs) (l : Nat) : Bool := (adr L B l 0 || adr L B l 1 || adr L B l 2) && (!adr L B l 0 || fitB L B l 0) && (!adr L B l 1 || fitB L B l 1) && (!adr L B l 2 || fitB L B l 2)
theorem bit0 (a b c : Bool) : ((mm_ishr (nI (mk3 a b c)) (nI 0)) &&& nI 1 = nI 1) = (a = true) := by cases a <;> cases b <;> cases c <;> decide
theorem bit1 (a b c : Bool) : ((mm_ishr (nI (mk3 a b c)) (nI 1)) &&& nI 1 = nI 1) = (b = true) := by cases a <;> cases b <;> cases c <;> decide
theorem bit2 (a b c : Bool) : ((mm_ishr (nI (mk3 a b c)) (nI 2)) &&& nI 1 = nI 1) = (c = true) := by cases a <;> cases b <;> cases c <;> decide
theorem mk3_0 (a b c : Bool) : (nI (mk3 a b c) = nI 0) = ((a || b || c) = false) := by cases a <;> cases b <;> cases c <;> decide

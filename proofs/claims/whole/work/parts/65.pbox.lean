-- letters and boxes
structure Lts where
  n : Nat
  sz : Nat → Nat
  srt : Nat → Nat
  org : Nat → Nat
  gl : Nat → Nat
  ad : Nat → Nat
  ps : Nat → Nat
  sm : Nat → Int32
  pr : Nat → Int32
  ex : Nat → Bool
structure Bxs where
  quo : Nat → Option Nat
  lies : Nat → List Nat
  memb : Nat → Nat → Nat → Bool
  dl : Nat → Bool
  dlv : Nat → Nat → Nat
def qv (q : Option Nat) : Int32 := match q with
  | none => mone
  | some q => nI q
def byS (sz : Nat → Nat) (xs : List Nat) : Nat := (xs.map sz).sum
def mk3 (a b c : Bool) : Nat := (if a then 1 else 0) + (if b then 2 else 0) + (if c then 4 else 0)
def pc (n : Nat) : Nat := (n + 7) / 8
structure WL (L : Lts) : Prop where
  n16 : L.n ≤ 16
  s1 : ∀ l, l < L.n → 1 ≤ L.sz l
  s32 : ∀ l, L.sz l ≤ 32
  srt : ∀ l, l < L.n → L.srt l < 3
  org : ∀ l, l < L.n → L.org l < 8
  gl : ∀ l, l < L.n → L.gl l < 8
  ad : ∀ l, l < L.n → L.ad l < 5
structure RL (s : Mem) (now : Nat) (L : Lts) : Prop where
  n : s.1 0 0 7 = nI L.n
  org : ∀ l, l < L.n → s.1 19 l 0 = nI (L.org l)
  gl : ∀ l, l < L.n → s.1 19 l 1 = nI (L.gl l)
  ad : ∀ l, l < L.n → s.1 19 l 2 = nI (L.ad l)
  srt : ∀ l, l < L.n → s.1 19 l 3 = nI (L.srt l)
  ps : ∀ l, l < L.n → s.1 19 l 4 = nI (L.ps l)
  pr : ∀ l, l < L.n → s.1 19 l 5 = L.pr l
  sz : ∀ l, l < L.n → s.1 19 l 6 = nI (L.sz l)
  sm : ∀ l, l < L.n → s.1 19 l 7 = L.sm l
  ov : ∀ l, l < 16 → s.1 19 l 8 = bI (decide (l < L.n ∧ L.ps l + 7200 ≤ now))
  ex : ∀ l, l < 16 → s.1 19 l 9 = bI (L.ex l)
structure QL (s : Mem) (L : Lts) : Prop where
  n : s.1 30 0 7 = nI L.n
  sz : ∀ l, l < L.n → s.1 36 0 l = nI (L.sz l)
  srt : ∀ l, l < L.n → s.1 37 0 l = nI (L.srt l)
  org : ∀ l, l < L.n → s.1 38 0 l = nI (L.org l)
  gl : ∀ l, l < L.n → s.1 39 0 l = nI (L.gl l)
  ad : ∀ l, l < L.n → s.1 40 0 l = nI (L.ad l)
  ps : ∀ l, l < L.n → s.1 41 0 l = nI (L.ps l)
  sm : ∀ l, l < L.n → s.1 42 0 l = L.sm l
  pr : ∀ l, l < L.n → s.1 43 0 l = L.pr l
  ex : ∀ l, l < 16 → s.1 44 0 l = bI (L.ex l)
structure WB' (L : Lts) (B : Bxs) : Prop where
  len : ∀ b, (B.lies b).length ≤ cN B.dl 16
  mem : ∀ b x, x ∈ B.lies b → x < L.n ∧ B.dl x = true
  q200 : ∀ b q, B.quo b = some q → q ≤ 200
structure RB (s : Mem) (sz : Nat → Nat) (B : Bxs) : Prop where
  grp : ∀ g t, g < 8 → t < 2 → s.1 15 g t = nI (mk3 (B.memb g t 0) (B.memb g t 1) (B.memb g t 2))
  cnt : ∀ b, b < 24 → s.1 16 b 1 = nI (B.lies b).length
  byt : ∀ b, b < 24 → s.1 16 b 2 = nI (byS sz (B.lies b))
  quo : ∀ b, b < 24 → s.1 16 b 3 = qv (B.quo b)
  lie : ∀ b j x, b < 24 → (B.lies b)[j]? = some x → s.1 17 b j = nI x
  dlv : ∀ l j, l < 16 → j < sz l → B.dl l = true → bytI (s.2 20 l (j / 8)) (j % 8) = nI (B.dlv l j)
structure QB (s : Mem) (sz : Nat → Nat) (B : Bxs) : Prop where
  dlv : ∀ l j, l < 16 → j < sz l → B.dl l = true → s.1 45 0 (32 * l + j) = nI (B.dlv l j)
  quo : ∀ b, b < 24 → s.1 53 0 b = qv (B.quo b)
  cnt : ∀ b, b < 24 → s.1 54 0 b = nI (B.lies b).length
  lie : ∀ b j x, b < 24 → (B.lies b)[j]? = some x → s.1 55 0 (16 * b + j) = nI x
  grp : ∀ g t b, g < 8 → t < 2 → b < 3 → s.1 56 0 (6 * g + 3 * t + b) = bI (B.memb g t b)
-- the sum
def trn (x : Int32) : Int32 := (mm_ishl x 5) ||| (mm_iushr x 27)
def sumF (b : Nat → Nat) : Nat → Int32
  | 0 => 0
  | n + 1 => trn (sumF b n) ^^^ nI (b n)
section
variable {s : Mem} {i k l : Nat}
theorem X_byteAt {x : Int64} {j : Nat} : f_X_byteAt x (nI j) s = mm_ri (bytI x j) s := by
  unfold f_X_byteAt bytI
  rw [show 8 * nI j = nI (8 * j) by simp only [qI_lit, qI_mul]]
theorem X_piecesIn {n : Nat} (h : n < 1000) : f_X_piecesIn (nI n) s = mm_ri (nI (pc n)) s := by
  unfold f_X_piecesIn pc
  congr 1
  rw [show nI n + 8 - 1 = nI (n + 7) by simp (disch := omega) only [qI_lit, qI_m1, qI_add, qI_mul, qI_le, qI_lt, qI_inj, qI_ne_m, m_ne_nI, m_lt_nI, m_le_nI, qI_lt_m, qI_le_m, qI_sub, qI_div, qI_rem, bI_0, bI_1]; omega]
  rw [show (8 : Int32) = nI 8 from rfl, qI_div (by omega) (by omega)]
theorem X_sumOf20_lp {b : Nat → Nat} {N : Nat} (hN : N ≤ 32) (hb : ∀ j, j < N → bytI (s.2 20 l (j / 8)) (j % 8) = nI (b j)) {kk : Int32 → Mem → RR} : ∀ (m n j : Nat), j + m = N → m < n → lp_X_sumOf_20_4 l (nI N) kk n (sumF b j) (nI j) s = kk (sumF b N) s := by
  intro m
  induction m with
  | zero =>
    intro n j hp hn
    obtain ⟨n, rfl⟩ : ∃ n', n = n' + 1 := ⟨n - 1, by omega⟩
    unfold lp_X_sumOf_20_4
    rw [if_pos (by simp (disch := omega) only [qI_lit, qI_m1, qI_add, qI_mul, qI_le, qI_lt, qI_inj, qI_ne_m, m_ne_nI, m_lt_nI, m_le_nI, qI_lt_m, qI_le_m, qI_sub, qI_div, qI_rem, bI_0, bI_1]; omega), show j = N by omega]
  | succ m ih =>
    intro n j hp hn
    obtain ⟨n, rfl⟩ : ∃ n', n = n' + 1 := ⟨n - 1, by omega⟩
    unfold lp_X_sumOf_20_4
    rw [if_neg (by simp (disch := omega) only [qI_lit, qI_m1, qI_add, qI_mul, qI_le, qI_lt, qI_inj, qI_ne_m, m_ne_nI, m_lt_nI, m_le_nI, qI_lt_m, qI_le_m, qI_sub, qI_div, qI_rem, bI_0, bI_1]; omega), show (8 : Int32) = nI 8 from rfl, qI_div (by omega) (by omega), qI_rem (by omega) (by omega), ldj_ok (by omega) (by omega), X_byteAt, cI_ok, hb j (by omega)]
    have e : nI j + 1 = nI (j + 1) := by simp (disch := omega) only [qI_lit, qI_m1, qI_add, qI_mul, qI_le, qI_lt, qI_inj, qI_ne_m, m_ne_nI, m_lt_nI, m_le_nI, qI_lt_m, qI_le_m, qI_sub, qI_div, qI_rem, bI_0, bI_1]
    rw [e]
    exact ih n (j + 1) (by omega) (by omega)
theorem X_sumOf20 {b : Nat → Nat} {N : Nat} (hN : N ≤ 32) (hb : ∀ j, j < N → bytI (s.2 20 l (j / 8)) (j % 8) = nI (b j)) : f_X_sumOf_20 l (nI N) s = mm_ri (sumF b N) s := by
  unfold f_X_sumOf_20
  exact X_sumOf20_lp (kk := fun x s => mm_ri x s) hN hb N FU 0 (by omega) (by unfold FU; omega)
theorem X_sumOf21_lp {b : Nat → Nat} {N : Nat} (hN : N ≤ 32) (hb : ∀ j, j < N → bytI (s.2 21 0 (j / 8)) (j % 8) = nI (b j)) {kk : Int32 → Mem → RR} : ∀ (m n j : Nat), j + m = N → m < n → lp_X_sumOf_21_4 (nI N) kk n (sumF b j) (nI j) s = kk (sumF b N) s := by
  intro m
  induction m with
  | zero =>
    intro n j hp hn
    obtain ⟨n, rfl⟩ : ∃ n', n = n' + 1 := ⟨n - 1, by omega⟩
    unfold lp_X_sumOf_21_4
    rw [if_pos (by simp (disch := omega) only [qI_lit, qI_m1, qI_add, qI_mul, qI_le, qI_lt, qI_inj, qI_ne_m, m_ne_nI, m_lt_nI, m_le_nI, qI_lt_m, qI_le_m, qI_sub, qI_div, qI_rem, bI_0, bI_1]; omega), show j = N by omega]
  | succ m ih =>
    intro n j hp hn
    obtain ⟨n, rfl⟩ : ∃ n', n = n' + 1 := ⟨n - 1, by omega⟩
    unfold lp_X_sumOf_21_4
    rw [if_neg (by simp (disch := omega) only [qI_lit, qI_m1, qI_add, qI_mul, qI_le, qI_lt, qI_inj, qI_ne_m, m_ne_nI, m_lt_nI, m_le_nI, qI_lt_m, qI_le_m, qI_sub, qI_div, qI_rem, bI_0, bI_1]; omega), show (8 : Int32) = nI 8 from rfl, qI_div (by omega) (by omega), qI_rem (by omega) (by omega), ldj_ok (by omega) (by omega), X_byteAt, cI_ok, hb j (by omega)]
    have e : nI j + 1 = nI (j + 1) := by simp (disch := omega) only [qI_lit, qI_m1, qI_add, qI_mul, qI_le, qI_lt, qI_inj, qI_ne_m, m_ne_nI, m_lt_nI, m_le_nI, qI_lt_m, qI_le_m, qI_sub, qI_div, qI_rem, bI_0, bI_1]
    rw [e]
    exact ih n (j + 1) (by omega) (by omega)
theorem X_sumOf21 {b : Nat → Nat} {N : Nat} (hN : N ≤ 32) (hb : ∀ j, j < N → bytI (s.2 21 0 (j / 8)) (j % 8) = nI (b j)) : f_X_sumOf_21 (nI N) s = mm_ri (sumF b N) s := by
  unfold f_X_sumOf_21
  exact X_sumOf21_lp (kk := fun x s => mm_ri x s) hN hb N FU 0 (by omega) (by unfold FU; omega)
end
-- the box that a letter is for
def adr (L : Lts) (B : Bxs) (l b : Nat) : Bool := if L.ad l < 3 then L.ad l == b else B.memb (L.gl l) (L.ad l - 3) b
def fitB (L : Lts) (B : Bxs) (l b : Nat) : Bool := match B.quo (3 * L.gl l + b) with
  | none => false
  | some q => decide (byS L.sz (B.lies (3 * L.gl l + b)) + L.sz l ≤ q)
def allB (L : Lts) (B : Bxs) (l : Nat) : Bool := (adr L B l 0 || adr L B l 1 || adr L B l 2) && (!adr L B l 0 || fitB L B l 0) && (!adr L B l 1 || fitB L B l 1) && (!adr L B l 2 || fitB L B l 2)
theorem bit0 (a b c : Bool) : ((mm_ishr (nI (mk3 a b c)) (nI 0)) &&& nI 1 = nI 1) = (a = true) := by cases a <;> cases b <;> cases c <;> decide
theorem bit1 (a b c : Bool) : ((mm_ishr (nI (mk3 a b c)) (nI 1)) &&& nI 1 = nI 1) = (b = true) := by cases a <;> cases b <;> cases c <;> decide
theorem bit2 (a b c : Bool) : ((mm_ishr (nI (mk3 a b c)) (nI 2)) &&& nI 1 = nI 1) = (c = true) := by cases a <;> cases b <;> cases c <;> decide
theorem mk3_0 (a b c : Bool) : (nI (mk3 a b c) = nI 0) = ((a || b || c) = false) := by cases a <;> cases b <;> cases c <;> decide

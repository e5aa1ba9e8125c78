theorem cN_full {f : Nat → Bool} {n : Nat} : n ≤ cN f n ↔ ∀ p, p < n → f p = true := by
  induction n with
  | zero => exact ⟨fun _ p hp => absurd hp (Nat.not_lt_zero _), fun _ => Nat.le_refl _⟩
  | succ n ih =>
    have hle := cN_le f n
    simp only [cN]
    constructor
    · intro h p hp
      have hf : f n = true := by
        cases hf : f n with
        | true => rfl
        | false => rw [hf] at h; simp at h; omega
      by_cases e : p = n
      · rw [e]; exact hf
      · exact ih.mp (by rw [hf] at h; simp at h; omega) p (by omega)
    · intro h
      have := ih.mpr fun p hp => h p (by omega)
      rw [h n (by omega)]; simp; omega
theorem cN_cut {f : Nat → Bool} {m n : Nat} (hmn : m ≤ n) (h : ∀ p, m ≤ p → p < n → f p = false) : cN f n = cN f m := by
  induction n with
  | zero => rw [show m = 0 by omega]
  | succ n ih =>
    by_cases e : m = n + 1
    · rw [e]
    · simp only [cN]
      rw [ih (by omega) (fun p h1 h2 => h p h1 (by omega)), h n (by omega) (by omega)]; simp
abbrev comp (L : Lts) (S : Sto) (l : Nat) : Prop := ∀ p, p < pc (L.sz l) → S.cp (L.gl l) (4 * l + p) = true
def oDel (L : Lts) (S : Sto) (B : Bxs) (l : Nat) : Bxs := (mkBxs (oPut3 B (L.gl l) l (adr L B l 0) (adr L B l 1) (adr L B l 2)).quo (oPut3 B (L.gl l) l (adr L B l 0) (adr L B l 1) (adr L B l 2)).lies (oPut3 B (L.gl l) l (adr L B l 0) (adr L B l 1) (adr L B l 2)).memb (u1 B.dl l true) (fun l' j => if l' = l then S.bt (L.gl l) l j else B.dlv l' j))
def look (L : Lts) (l : Nat) (x : Sto × Bxs) : Sto × Bxs :=
  if comp L x.1 l then
    if sumF (x.1.bt (L.gl l) l) (L.sz l) = L.sm l then
      if allb L.sz x.2 (L.gl l) l (adr L x.2 l 0) (adr L x.2 l 1) (adr L x.2 l 2) then (oLearn x.1 (L.gl l) l 1, oDel L x.1 x.2 l) else x
    else (oLearn x.1 (L.gl l) l 2, x.2)
  else x
def FrL (s s' : Mem) : Prop := ∀ F, ((F < 7 ∨ 11 < F) ∧ (F < 16 ∨ 17 < F) ∧ F ≠ 20) → s'.1 F = s.1 F ∧ s'.2 F = s.2 F
theorem FrL.rf {s : Mem} : FrL s s := fun _ _ => ⟨rfl, rfl⟩
theorem FrL.tr {a b c : Mem} (h : FrL a b) (g : FrL b c) : FrL a c := fun F hF => ⟨(g F hF).1.trans (h F hF).1, (g F hF).2.trans (h F hF).2⟩
theorem FrL.s {a b : Mem} (h : FrS a b) : FrL a b := fun F hF => h F hF.1
theorem FrL.b {a b : Mem} (h : FrX2 a b) : FrL a b := fun F hF => h F hF.2.1
theorem RS.fr {s s' : Mem} {sz : Nat → Nat} {S : Sto} (h : RS s sz S) (e7 : s'.1 7 = s.1 7) (e8 : s'.1 8 = s.1 8) (e9 : s'.1 9 = s.1 9) (e10 : s'.2 10 = s.2 10) (e11 : s'.1 11 = s.1 11) : RS s' sz S :=
  ⟨by rw [e7]; exact h.cap, by rw [e7]; exact h.cop, by rw [e7]; exact h.hel, by rw [e7]; exact h.exl, by rw [e7]; exact h.ref, by rw [e8]; exact h.hop, by rw [e9]; exact h.new, by rw [e11]; exact h.kno, by rw [e10]; exact h.byt, h.hlt, h.nlt, h.vcp⟩
theorem RS.frb {s s' : Mem} {sz : Nat → Nat} {S : Sto} (h : RS s sz S) (f : FrX2 s s') : RS s' sz S := h.fr (f 7 (by omega)).1 (f 8 (by omega)).1 (f 9 (by omega)).1 (f 10 (by omega)).2 (f 11 (by omega)).1
theorem RB.fr {s s' : Mem} {sz : Nat → Nat} {B : Bxs} (h : RB s sz B) (e15 : s'.1 15 = s.1 15) (e16 : s'.1 16 = s.1 16) (e17 : s'.1 17 = s.1 17) (e20 : s'.2 20 = s.2 20) : RB s' sz B :=
  ⟨by rw [e15]; exact h.grp, by rw [e16]; exact h.cnt, by rw [e16]; exact h.byt, by rw [e16]; exact h.quo, by rw [e17]; exact h.lie, by rw [e20]; exact h.dlv⟩
theorem RB.frs {s s' : Mem} {sz : Nat → Nat} {B : Bxs} (h : RB s sz B) (f : FrS s s') : RB s' sz B := h.fr (f 15 (by omega)).1 (f 16 (by omega)).1 (f 17 (by omega)).1 (f 20 (by omega)).2
theorem RL.fr {s s' : Mem} {now : Nat} {L : Lts} (h : RL s now L) (e0 : s'.1 0 = s.1 0) (e19 : s'.1 19 = s.1 19) : RL s' now L :=
  ⟨by rw [e0]; exact h.n, by rw [e19]; exact h.org, by rw [e19]; exact h.gl, by rw [e19]; exact h.ad, by rw [e19]; exact h.srt, by rw [e19]; exact h.ps, by rw [e19]; exact h.pr, by rw [e19]; exact h.sz, by rw [e19]; exact h.sm, by rw [e19]; exact h.ov, by rw [e19]; exact h.ex⟩
theorem RL.frl {s s' : Mem} {now : Nat} {L : Lts} (h : RL s now L) (f : FrL s s') : RL s' now L := h.fr (f 0 (by omega)).1 (f 19 (by omega)).1
/-- what the class's look wants of the pictures -/
def LkOk (L : Lts) (S : Sto) (B : Bxs) (l : Nat) : Prop := (S.kn (L.gl l) l ≠ 0 → ¬ comp L S l) ∧ (S.kn (L.gl l) l ≤ 2) ∧ (∀ p, pc (L.sz l) ≤ p → p < 4 → S.cp (L.gl l) (4 * l + p) = false) ∧ (B.dl l = true → S.kn (L.gl l) l ≠ 0)
theorem LkOk.kn {L : Lts} {S : Sto} {B : Bxs} {l : Nat} (h : LkOk L S B l) : S.kn (L.gl l) l ≠ 0 → ¬ comp L S l := h.1
theorem LkOk.k2 {L : Lts} {S : Sto} {B : Bxs} {l : Nat} (h : LkOk L S B l) : S.kn (L.gl l) l ≤ 2 := h.2.1
theorem LkOk.np {L : Lts} {S : Sto} {B : Bxs} {l : Nat} (h : LkOk L S B l) : ∀ p, pc (L.sz l) ≤ p → p < 4 → S.cp (L.gl l) (4 * l + p) = false := h.2.2.1
theorem LkOk.dl {L : Lts} {S : Sto} {B : Bxs} {l : Nat} (h : LkOk L S B l) : B.dl l = true → S.kn (L.gl l) l ≠ 0 := h.2.2.2
section
variable {s : Mem} {L : Lts} {S : Sto} {B : Bxs} {l now : Nat}
theorem X_lookAt (hS : RS s L.sz S) (hL : RL s now L) (hB : RB s L.sz B) (wL : WL L) (wB : WB' L B) (hl : l < L.n) (ok : LkOk L S B l) :
    ∃ s', f_X_lookAt (nI l) s = mm_rv s' ∧ RS s' L.sz (look L l (S, B)).1 ∧ RB s' L.sz (look L l (S, B)).2 ∧ FrL s s' := by
  have h16 := wL.n16
  have hg := wL.gl l hl
  have hs1 := wL.s1 l hl
  have hs32 := wL.s32 l
  have hk2 := ok.k2
  have hpc : pc (L.sz l) ≤ 4 ∧ 1 ≤ pc (L.sz l) := by unfold pc; omega
  unfold f_X_lookAt
  simp only [mm_gf]
  rw [al_ok (by omega) (by omega), hL.gl l hl, al_ok (by omega) (by omega), ld_ok (by omega) (by omega), hS.kno _ _ (by omega) (by omega)]
  by_cases hkn : S.kn (L.gl l) l = 0
  case neg =>
    rw [if_pos (by simp (disch := omega) only [qI_lit, qI_m1, qI_add, qI_mul, qI_le, qI_lt, qI_inj, qI_ne_m, m_ne_nI, m_lt_nI, m_le_nI, qI_lt_m, qI_le_m, qI_sub, qI_div, qI_rem, bI_0, bI_1]; exact hkn)]
    have : look L l (S, B) = (S, B) := by unfold look; rw [if_neg (ok.kn hkn)]
    rw [this]; exact ⟨s, rfl, hS, hB, FrL.rf⟩
  have hdl : B.dl l = false := by
    cases h9 : B.dl l with
    | false => rfl
    | true => exact absurd hkn (ok.dl h9)
  rw [if_neg (by simp (disch := omega) only [qI_lit, qI_m1, qI_add, qI_mul, qI_le, qI_lt, qI_inj, qI_ne_m, m_ne_nI, m_lt_nI, m_le_nI, qI_lt_m, qI_le_m, qI_sub, qI_div, qI_rem, bI_0, bI_1]; exact fun h9 => h9 hkn), S_countOf hS (by omega) (by omega), cI_ok, hL.sz l hl, X_piecesIn (by omega), cI_ok]
  have hc4 : pc (L.sz l) ≤ c4 (S.cp (L.gl l)) l ↔ comp L S l := by
    unfold c4
    rw [cN_cut (f := fun q => S.cp (L.gl l) (4 * l + q)) hpc.1 ok.np]
    exact cN_full
  have hc4' : c4 (S.cp (L.gl l)) l ≤ 4 := cN_le _ _
  by_cases hc : comp L S l
  case neg =>
    rw [if_neg (by simp (disch := omega) only [qI_lit, qI_m1, qI_add, qI_mul, qI_le, qI_lt, qI_inj, qI_ne_m, m_ne_nI, m_lt_nI, m_le_nI, qI_lt_m, qI_le_m, qI_sub, qI_div, qI_rem, bI_0, bI_1]; exact fun h9 => hc (hc4.mp h9))]
    have : look L l (S, B) = (S, B) := by unfold look; rw [if_neg hc]
    rw [this]; exact ⟨s, rfl, hS, hB, FrL.rf⟩
  rw [if_pos (by simp (disch := omega) only [qI_lit, qI_m1, qI_add, qI_mul, qI_le, qI_lt, qI_inj, qI_ne_m, m_ne_nI, m_lt_nI, m_le_nI, qI_lt_m, qI_le_m, qI_sub, qI_div, qI_rem, bI_0, bI_1]; exact hc4.mpr hc)]
  have e4 : nI l * 4 = nI (4 * l) := by simp (disch := omega) only [qI_lit, qI_m1, qI_add, qI_mul, qI_le, qI_lt, qI_inj, qI_ne_m, m_ne_nI, m_lt_nI, m_le_nI, qI_lt_m, qI_le_m, qI_sub, qI_div, qI_rem, bI_0, bI_1]; omega
  unfold mm_cp
  rw [e4, if_neg (by
    simp only [show (0 : Int32) = nI 0 from rfl, show (4 : Int32) = nI 4 from rfl, qI_nat (show 4 * l < 2147483648 by omega), qI_nat (show 0 < 2147483648 by omega), qI_nat (show 4 < 2147483648 by omega), qI_lt (show 4 * l < 2147483648 by omega) (show 0 < 2147483648 by omega), qI_lt (show 4 < 2147483648 by omega) (show 0 < 2147483648 by omega), qI_lt (show 0 < 2147483648 by omega) (show 0 < 2147483648 by omega)]
    omega)]
  rw [qI_nat (show 4 * l < 2147483648 by omega), show (0 : Int32).toNatClampNeg = 0 by decide, show (4 : Int32).toNatClampNeg = 4 by decide]
  generalize hs5 : ((s.1, fun F' i' k' => if F' = 20 ∧ i' = l then va_cpy (s.2 10 (L.gl l)) (s.2 20 l) (4 * l) 0 4 k' else s.2 F' i' k') : Mem) = s5
  have a1 : s5.1 = s.1 := by rw [← hs5]
  have a2 : ∀ F, F ≠ 20 → s5.2 F = s.2 F := by intro F hF; rw [← hs5]; funext a b; exact if_neg fun h9 => hF h9.1
  have a3 : ∀ k, k < 4 → s5.2 20 l k = s.2 10 (L.gl l) (4 * l + k) := by
    intro k hk; rw [← hs5]
    show (if _ then _ else _) = _
    rw [if_pos ⟨rfl, rfl⟩]; unfold va_cpy; rw [if_pos (by omega)]; rfl
  have a4 : ∀ l', l' ≠ l → s5.2 20 l' = s.2 20 l' := by intro l' hl'; rw [← hs5]; funext b; exact if_neg fun h9 => hl' h9.2
  have hS5 : RS s5 L.sz S := hS.fr (by rw [a1]) (by rw [a1]) (by rw [a1]) (a2 10 (by decide)) (by rw [a1])
  have hL5 : RL s5 now L := hL.fr (by rw [a1]) (by rw [a1])
  have hB5 : RB s5 L.sz B := by
    refine ⟨by rw [a1]; exact hB.grp, by rw [a1]; exact hB.cnt, by rw [a1]; exact hB.byt, by rw [a1]; exact hB.quo, by rw [a1]; exact hB.lie, fun l' j h1 h2 h3 => ?_⟩
    have : l' ≠ l := fun e => by rw [e, hdl] at h3; cases h3
    rw [a4 l' this]; exact hB.dlv l' j h1 h2 h3
  have hF5 : FrL s s5 := fun F hF => ⟨by rw [a1], a2 F hF.2.2⟩
  have hby : ∀ j, j < L.sz l → bytI (s5.2 20 l (j / 8)) (j % 8) = nI (S.bt (L.gl l) l j) := by
    intro j hj
    rw [a3 (j / 8) (by omega)]
    exact hS.byt _ _ _ (by omega) (by omega) hj (hS.vcp _ _ (hc (j / 8) (by unfold pc; omega)))
  show ∃ s', mm_cI (f_X_sumOf_20 l (s5.1 19 l 6) s5) _ = _ ∧ _
  rw [hL5.sz l hl, X_sumOf20 (by omega) hby, cI_ok, hL5.sm l hl]
  by_cases hsm : sumF (S.bt (L.gl l) l) (L.sz l) = L.sm l
  case neg =>
    rw [if_neg hsm]
    obtain ⟨s6, e6, h6, f6⟩ := S_learnOf (w := 2) hS5 (show L.gl l < 12 by omega) (show l < 16 by omega) (by decide)
    rw [show (2 : Int32) = nI 2 from rfl, e6, cV_ok]
    have : look L l (S, B) = (oLearn S (L.gl l) l 2, B) := by unfold look; rw [if_pos hc, if_neg hsm]
    rw [this]; exact ⟨s6, rfl, h6, hB5.frs f6, hF5.tr (FrL.s f6)⟩
  rw [if_pos hsm, hL5.gl l hl, al_ok (by omega) (by omega), hL5.ad l hl]
  have hlen : ∀ b, (B.lies b).length < 16 := by
    intro b
    have h1 := wB.len b
    have h2 := cN_up (f := B.dl) (show l < 16 by omega) hdl
    have h3 := cN_le (u1 B.dl l true) 16
    omega
  have hadr : f_C_addressedBy (L.gl l) (nI (L.ad l)) s5 = mm_ri (nI (mk3 (adr L B l 0) (adr L B l 1) (adr L B l 2))) s5 := C_addr hB5 hg (wL.ad l hl)
  obtain ⟨s6, e6, h6, f6⟩ := C_putInto (l := l) hB5 wL.s32 hg (wL.ad l hl) hlen wB.q200 hadr
  rw [hL5.sz l hl, e6, cI_ok]
  cases hall : allb L.sz B (L.gl l) l (adr L B l 0) (adr L B l 1) (adr L B l 2) with
  | false =>
    rw [if_pos (by decide)]
    have : look L l (S, B) = (S, B) := by unfold look; rw [if_pos hc, if_pos hsm]; simp only [hall]; rfl
    rw [hall] at h6
    rw [this]; exact ⟨s6, rfl, hS5.frb f6, h6, hF5.tr (FrL.b f6)⟩
  | true =>
    rw [if_neg (by decide)]
    obtain ⟨s7, e7, h7, f7⟩ := S_learnOf (w := 1) (hS5.frb f6) (show L.gl l < 12 by omega) (show l < 16 by omega) (by decide)
    rw [show (1 : Int32) = nI 1 from rfl, e7, cV_ok]
    have : look L l (S, B) = (oLearn S (L.gl l) l 1, oDel L S B l) := by unfold look; rw [if_pos hc, if_pos hsm]; simp only [hall]; rfl
    rw [hall] at h6
    rw [this]; refine ⟨s7, rfl, h7, ?_, hF5.tr ((FrL.b f6).tr (FrL.s f7))⟩
    have h6' := RB.frs h6 f7
    refine ⟨?_, h6'.cnt, h6'.byt, ?_, h6'.lie, fun l' j h1 h2 h3 => ?_⟩
    · exact h6'.grp
    · exact h6'.quo
    · have e20 : s7.2 20 = s5.2 20 := (f7 20 (by omega)).2.trans (f6 20 (by omega)).2
      rw [e20]
      show _ = nI (if l' = l then S.bt (L.gl l) l j else B.dlv l' j)
      by_cases e : l' = l
      · rw [if_pos e, e]; rw [e] at h2; exact hby j h2
      · rw [if_neg e]
        have h3' : u1 B.dl l true l' = true := h3
        rw [u1_ne e] at h3'
        exact hB5.dlv l' j h1 h2 h3'
end

-- well formed pictures
def WS (L : Lts) (S : Sto) (H : Nat) : Prop := (∀ i, i < 12 → cN (S.cp i) 64 ≤ capa i) ∧ (∀ i k, S.cp i k = true → k / 4 < L.n ∧ k % 4 < pc (L.sz (k / 4))) ∧ (∀ i k, S.cp i k = true → S.nw i k = S.hp i k) ∧ (∀ i k, S.cp i k = true → S.hp i k % 2 = (if i < 8 then 0 else 1)) ∧ (∀ i k, S.kn i (k / 4) ≠ 0 → S.cp i k = false) ∧ (∀ i l, S.kn i l ≤ 2) ∧ (∀ i l, L.n ≤ l → S.kn i l = 0) ∧ (∀ i k, L.n ≤ k / 4 → S.nw i k = 0) ∧ (∀ i k, S.vb i k = true → k / 4 < L.n) ∧ (∀ i k, S.hp i k ≤ H) ∧ (∀ i k, S.nw i k ≤ H)
theorem WS.cap {L : Lts} {S : Sto} {H : Nat} (h : WS L S H) : ∀ i, i < 12 → cN (S.cp i) 64 ≤ capa i := h.1
theorem WS.cpn {L : Lts} {S : Sto} {H : Nat} (h : WS L S H) : ∀ i k, S.cp i k = true → k / 4 < L.n ∧ k % 4 < pc (L.sz (k / 4)) := h.2.1
theorem WS.nhp {L : Lts} {S : Sto} {H : Nat} (h : WS L S H) : ∀ i k, S.cp i k = true → S.nw i k = S.hp i k := h.2.2.1
theorem WS.par {L : Lts} {S : Sto} {H : Nat} (h : WS L S H) : ∀ i k, S.cp i k = true → S.hp i k % 2 = (if i < 8 then 0 else 1) := h.2.2.2.1
theorem WS.kn0 {L : Lts} {S : Sto} {H : Nat} (h : WS L S H) : ∀ i k, S.kn i (k / 4) ≠ 0 → S.cp i k = false := h.2.2.2.2.1
theorem WS.k2 {L : Lts} {S : Sto} {H : Nat} (h : WS L S H) : ∀ i l, S.kn i l ≤ 2 := h.2.2.2.2.2.1
theorem WS.knn {L : Lts} {S : Sto} {H : Nat} (h : WS L S H) : ∀ i l, L.n ≤ l → S.kn i l = 0 := h.2.2.2.2.2.2.1
theorem WS.nwn {L : Lts} {S : Sto} {H : Nat} (h : WS L S H) : ∀ i k, L.n ≤ k / 4 → S.nw i k = 0 := h.2.2.2.2.2.2.2.1
theorem WS.vbn {L : Lts} {S : Sto} {H : Nat} (h : WS L S H) : ∀ i k, S.vb i k = true → k / 4 < L.n := h.2.2.2.2.2.2.2.2.1
theorem WS.hb {L : Lts} {S : Sto} {H : Nat} (h : WS L S H) : ∀ i k, S.hp i k ≤ H := h.2.2.2.2.2.2.2.2.2.1
theorem WS.nb {L : Lts} {S : Sto} {H : Nat} (h : WS L S H) : ∀ i k, S.nw i k ≤ H := h.2.2.2.2.2.2.2.2.2.2
def WK (L : Lts) (S : Sto) (B : Bxs) : Prop := (WL L) ∧ (WB' L B) ∧ (∀ l, B.dl l = true → S.kn (L.gl l) l ≠ 0) ∧ (∀ l, B.dl l = true → l < L.n)
theorem WK.wl {L : Lts} {S : Sto} {B : Bxs} (h : WK L S B) : WL L := h.1
theorem WK.wb {L : Lts} {S : Sto} {B : Bxs} (h : WK L S B) : WB' L B := h.2.1
theorem WK.dlk {L : Lts} {S : Sto} {B : Bxs} (h : WK L S B) : ∀ l, B.dl l = true → S.kn (L.gl l) l ≠ 0 := h.2.2.1
theorem WK.dln {L : Lts} {S : Sto} {B : Bxs} (h : WK L S B) : ∀ l, B.dl l = true → l < L.n := h.2.2.2
def WF (A : Ab) (c : Nat) : Prop := (A.now ≤ 20000 * c) ∧ (A.pubs ≤ 6) ∧ (∀ t, t < 8 → TabOk (A.T t)) ∧ (∀ i, A.S.held i ≤ A.pubs) ∧ (WK A.L A.S A.B) ∧ (WS A.L A.S (128 * c)) ∧ (∀ l, l < A.L.n → A.L.ps l ≤ A.now) ∧ (A.txt.length ≤ 32)
theorem WF.now {A : Ab} {c : Nat} (h : WF A c) : A.now ≤ 20000 * c := h.1
theorem WF.pub {A : Ab} {c : Nat} (h : WF A c) : A.pubs ≤ 6 := h.2.1
theorem WF.tab {A : Ab} {c : Nat} (h : WF A c) : ∀ t, t < 8 → TabOk (A.T t) := h.2.2.1
theorem WF.hel {A : Ab} {c : Nat} (h : WF A c) : ∀ i, A.S.held i ≤ A.pubs := h.2.2.2.1
theorem WF.wk {A : Ab} {c : Nat} (h : WF A c) : WK A.L A.S A.B := h.2.2.2.2.1
theorem WF.ws {A : Ab} {c : Nat} (h : WF A c) : WS A.L A.S (128 * c) := h.2.2.2.2.2.1
theorem WF.ps {A : Ab} {c : Nat} (h : WF A c) : ∀ l, l < A.L.n → A.L.ps l ≤ A.now := h.2.2.2.2.2.2.1
theorem WF.t32 {A : Ab} {c : Nat} (h : WF A c) : A.txt.length ≤ 32 := h.2.2.2.2.2.2.2
theorem WS.mono {L : Lts} {S : Sto} {H H' : Nat} (h : WS L S H) (hH : H ≤ H') : WS L S H' := ⟨h.cap, h.cpn, h.nhp, h.par, h.kn0, h.k2, h.knn, h.nwn, h.vbn, fun i k => Nat.le_trans (h.hb i k) hH, fun i k => Nat.le_trans (h.nb i k) hH⟩
theorem WF.mono {A : Ab} {c : Nat} (h : WF A c) : WF A (c + 1) := ⟨by have := h.now; omega, h.pub, h.tab, h.hel, h.wk, h.ws.mono (by omega), h.ps, h.t32⟩
-- one call: what the class answers, what the reference answers
def OutI (F : Mem → RR) (s : Mem) (x1 x2 e : Nat) (v : Int32) (A' : Ab) : Prop := ∃ s', F s = (if e = 0 then mm_ri v s' else if e = 1 then mm_th x1 s' else mm_th x2 s') ∧ RX s' A' ∧ FrC s s'
def OutM (F : Mem → RR) (t : Mem) (e : Nat) (v : Int32) (A' : Ab) : Prop := ∃ t' v', F t = mm_ri v' t' ∧ t'.1 30 0 31 = nI e ∧ (e = 0 → v' = v) ∧ RM t' A' ∧ FrN t t'
def Agr (FX FM : Mem → RR) (E x1 x2 : Nat) (s : Mem) (A : Ab) (c : Nat) : Prop := ∃ e v A', e < E ∧ WF A' (c + 1) ∧ OutI FX s x1 x2 e v A' ∧ ∀ t, RM t A → OutM FM t e v A'
section
variable {s : Mem} {A : Ab} {c x1 x2 E : Nat} {FX FM : Mem → RR}
theorem Agr.no (hX : RX s A) (hW : WF A c) {e : Nat} (he : e < E) (h0 : e ≠ 0) (e1 : FX s = (if e = 1 then mm_th x1 s else mm_th x2 s)) (e2 : ∀ t, RM t A → ∃ v' t', FM t = mm_ri v' t' ∧ t'.1 30 0 31 = nI e ∧ RM t' A ∧ FrN t t') : Agr FX FM E x1 x2 s A c :=
  ⟨e, 0, A, he, hW.mono, ⟨s, by rw [if_neg h0]; exact e1, hX, FrC.rf⟩, fun t ht => (e2 t ht).elim fun v' h => h.elim fun t' h => ⟨t', v', h.1, h.2.1, fun h9 => absurd h9 h0, h.2.2.1, h.2.2.2⟩⟩
theorem Agr.yes {A' : Ab} {v : Int32} {s' : Mem} (hE : 0 < E) (hW : WF A' (c + 1)) (e1 : FX s = mm_ri v s') (hX : RX s' A') (f : FrC s s') (e2 : ∀ t, RM t A → ∃ t', FM t = mm_ri v t' ∧ t'.1 30 0 31 = nI 0 ∧ RM t' A' ∧ FrN t t') : Agr FX FM E x1 x2 s A c :=
  ⟨0, v, A', hE, hW, ⟨s', by rw [if_pos rfl]; exact e1, hX, f⟩, fun t ht => (e2 t ht).elim fun t' h => ⟨t', v, h.1, h.2.1, fun _ => rfl, h.2.2.1, h.2.2.2⟩⟩
end
theorem perm_ok {T T' : List Hlt} (h : T.Perm T') (ok : TabOk T) : TabOk T' :=
  ⟨fun x hx => ok.1 x (h.mem_iff.mpr hx), fun x hx y hy => ok.2.1 x (h.mem_iff.mpr hx) y (h.mem_iff.mpr hy), by rw [← h.length_eq]; exact ok.2.2⟩
section
variable {s : Mem} {A : Ab} {c : Nat} {x1 x2 x3 : Int32}
theorem WF.tabs (h : WF A c) {T : Nat → List Hlt} (hT : ∀ t, t < 8 → TabOk (T t)) : WF (mkAb A.now T A.pubs A.S A.L A.B A.txt) (c + 1) :=
  ⟨by have := h.now; show A.now ≤ _; omega, h.pub, hT, h.hel, h.wk, h.ws.mono (by omega), h.ps, h.t32⟩
theorem call_stop (hX : RX s A) (hW : WF A c) : Agr (f_X_stop x1 x2 x3) (f_M_stop x1 x2 x3) 3 1 2 s A c := by
  have ok := hW.tab 7 (by decide)
  have okA : ∀ t, t < 8 → (A.T t).length ≤ 24 := fun t ht => (hW.tab t ht).2.2
  cases hg : (inR 8 12 x1 && inR 0 8 x2 && inR 0 10080 x3) with
  | false =>
    refine Agr.no hX hW (e := 1) (by decide) (by decide) (X_stop_bad hg) fun t ht => ⟨_, _, M_stop_bad hg, wI_y, ht.thr, FrN.wI (by decide)⟩
  | true =>
    simp only [Bool.and_eq_true] at hg
    obtain ⟨b, hb1, hb2, rfl⟩ := inR_get (by decide) (by decide) hg.1.1
    obtain ⟨k, _, hk2, rfl⟩ := inR_get (by decide) (by decide) hg.1.2
    obtain ⟨m, _, hm2, rfl⟩ := inR_get (by decide) (by decide) hg.2
    by_cases hc : hasT (A.T 7) b m ∨ (A.T 7).length = 24
    · exact Agr.no hX hW (e := 2) (by decide) (by decide) (X_stop_no hX ok ⟨hb1, hb2⟩ hk2 hm2 hc) fun t ht => ⟨_, _, M_stop_no ht ok ⟨hb1, hb2⟩ hk2 hm2 hc, wI_y, ht.thr, FrN.wI (by decide)⟩
    · have hn : ¬ hasT (A.T 7) b m := fun h => hc (.inl h)
      have hl : (A.T 7).length ≠ 24 := fun h => hc (.inr h)
      obtain ⟨s1, e1, h1, f1⟩ := X_stop_yes hX ok ⟨hb1, hb2⟩ hk2 hm2 hn hl
      refine Agr.yes (by decide) (hW.tabs fun t ht => ?_) e1 h1 f1 fun t ht => M_stop_yes ht ok okA ⟨hb1, hb2⟩ hk2 hm2 hn hl
      by_cases e : t = 7
      · rw [e, u1_at]
        refine ⟨fun x hx => ?_, fun x hx y hy h1 h2 => ?_, by rw [List.length_append]; show (A.T 7).length + 1 ≤ 24; have := ok.2.2; omega⟩
        · rcases List.mem_append.mp hx with h | h
          · exact ok.1 x h
          · rw [List.mem_singleton.mp h]; exact ⟨hb1, hb2, hk2, hm2⟩
        · rcases List.mem_append.mp hx with h | h <;> rcases List.mem_append.mp hy with g | g
          · exact ok.2.1 x h y g h1 h2
          · rw [List.mem_singleton.mp g] at h1 h2; exact absurd ⟨x, h, h1, h2⟩ hn
          · rw [List.mem_singleton.mp h] at h1 h2; exact absurd ⟨y, g, h1.symm, h2.symm⟩ hn
          · rw [List.mem_singleton.mp h, List.mem_singleton.mp g]
      · rw [u1_ne e]; exact hW.tab t ht
def CAgr (FX FM : Mem → RR) (s : Mem) (A : Ab) (c : Nat) : Prop := ∃ v A' s1, WF A' (c + 1) ∧ FX s = mm_ri v s1 ∧ RX s1 A' ∧ FrC s s1 ∧ ∀ t, RM t A → ∃ t', FM t = mm_ri v t' ∧ RM t' A' ∧ FrN t t'
theorem call_cancel (hX : RX s A) (hR : RM s A) (hW : WF A c) : ∃ v A' s1 s2, WF A' (c + 1) ∧ f_X_cancel x1 x2 s = mm_ri v s1 ∧ f_M_cancel x1 x2 s1 = mm_ri v s2 ∧ RX s2 A' ∧ RM s2 A' := by
  have ok := hW.tab 7 (by decide)
  have okA : ∀ t, t < 8 → (A.T t).length ≤ 24 := fun t ht => (hW.tab t ht).2.2
  by_cases hc : ∃ x ∈ A.T 7, nI x.1 = x1 ∧ nI x.2.2 = x2
  · obtain ⟨_, a, ha, g1, g2, _, _, _⟩ := M_cancel_yes hR ok okA hc
    obtain ⟨s1, e1, h1, f1⟩ := X_cancel_yes hX ok ha g1 g2
    obtain ⟨s2, a', ha', g1', g2', e2, h2, f2⟩ := M_cancel_yes (hR.fr f1) ok okA hc
    have hx := ok.1 _ (List.getElem_mem ha)
    have hy := ok.1 _ (List.getElem_mem ha')
    obtain ⟨s1', e1', h1', f1'⟩ := X_cancel_yes hX ok ha' g1' g2'
    have es : s1' = s1 := by
      have := e1'.symm.trans e1
      unfold mm_ri at this
      injection this with this; injection this
    rw [es] at h1'
    refine ⟨_, _, s1, s2, hW.tabs fun t ht => ?_, e1, e2, h1'.fr f2, h2⟩
    by_cases e : t = 7
    · rw [e, u1_at]
      have hp := cutT_perm ha'
      have ok2 := perm_ok hp.symm ok
      exact ⟨fun x hx => ok2.1 x (List.mem_cons_of_mem _ hx), fun x hx y hy => ok2.2.1 x (List.mem_cons_of_mem _ hx) y (List.mem_cons_of_mem _ hy), by have := ok2.2.2; rw [List.length_cons] at this; omega⟩
    · rw [u1_ne e]; exact hW.tab t ht
  · have hno : ∀ x ∈ A.T 7, ¬ (nI x.1 = x1 ∧ nI x.2.2 = x2) := fun x hx h => hc ⟨x, hx, h⟩
    obtain ⟨s2, e2, h2, f2⟩ := M_cancel_no (s := s) hR ok hno
    exact ⟨_, A, s, s2, hW.mono, X_cancel_no hX ok hno, e2, hX.fr f2, h2⟩
end

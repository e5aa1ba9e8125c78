-- pieces moved, on the pictures
def mvS (S : Sto) (g r p : Nat) : Sto := oHear (oTake S r p (S.hp g p + 1) (S.bt g (p / 4))) g p (S.hp g p + 1)
def stp (L : Lts) (g r p : Nat) (x : Sto × Bxs) : Sto × Bxs := if L.gl (p / 4) = r then look L (p / 4) (mvS x.1 g r p, x.2) else (mvS x.1 g r p, x.2)
def refu (r : Nat) (x : Sto × Bxs) : Sto × Bxs := ((mkSto (x.1).cp (x.1).vb (x.1).hp (x.1).nw (x.1).kn (x.1).bt (x.1).held (x.1).ea (u1 x.1.rf r (x.1.rf r + 1))), x.2)
def mvA (L : Lts) (g r q : Nat) : List Nat → Sto × Bxs → Nat → Option (Nat × Nat × Nat) → (Sto × Bxs) × Nat × Option (Nat × Nat × Nat)
  | [], x, c, w => (x, c, w)
  | p :: ps, x, c, w => if q ≤ c then (x, c, w) else if cN (x.1.cp r) 64 = capa r then mvA L g r q ps (refu r x) c w else mvA L g r q ps (stp L g r p x) (c + 1) (some (g, p, x.1.hp g p))
theorem mvA_full {L : Lts} {g r q c : Nat} (h : q ≤ c) (ps : List Nat) (x : Sto × Bxs) (w : Option (Nat × Nat × Nat)) : mvA L g r q ps x c w = (x, c, w) := by
  cases ps with
  | nil => rfl
  | cons p ps => unfold mvA; rw [if_pos h]
theorem mvA_cons {L : Lts} {g r q c p : Nat} {ps : List Nat} {x : Sto × Bxs} {w : Option (Nat × Nat × Nat)} : mvA L g r q (p :: ps) x c w = if q ≤ c then (x, c, w) else if cN (x.1.cp r) 64 = capa r then mvA L g r q ps (refu r x) c w else mvA L g r q ps (stp L g r p x) (c + 1) (some (g, p, x.1.hp g p)) := rfl
theorem mvA_app {L : Lts} {g r q : Nat} : ∀ (ps qs : List Nat) (x : Sto × Bxs) (c : Nat) (w : Option (Nat × Nat × Nat)), mvA L g r q (ps ++ qs) x c w = mvA L g r q qs (mvA L g r q ps x c w).1 (mvA L g r q ps x c w).2.1 (mvA L g r q ps x c w).2.2 := by
  intro ps
  induction ps with
  | nil => intro qs x c w; rfl
  | cons p ps ih =>
    intro qs x c w
    rw [List.cons_append, mvA_cons, mvA_cons]
    by_cases h : q ≤ c
    · rw [if_pos h, if_pos h]; exact (mvA_full h qs x w).symm
    · rw [if_neg h, if_neg h]
      by_cases h2 : cN (x.1.cp r) 64 = capa r
      · rw [if_pos h2, if_pos h2]; exact ih qs _ _ _
      · rw [if_neg h2, if_neg h2]; exact ih qs _ _ _
def Gr (g r : Nat) : Prop := (g < 12) ∧ (r < 12) ∧ (g ≠ r) ∧ ((if g < 8 then 0 else 1) ≠ (if r < 8 then 0 else 1))
theorem Gr.g12 {g r : Nat} (h : Gr g r) : g < 12 := h.1
theorem Gr.r12 {g r : Nat} (h : Gr g r) : r < 12 := h.2.1
theorem Gr.ne {g r : Nat} (h : Gr g r) : g ≠ r := h.2.2.1
theorem Gr.par {g r : Nat} (h : Gr g r) : (if g < 8 then 0 else 1) ≠ (if r < 8 then 0 else 1) := h.2.2.2
def MI (L : Lts) (S : Sto) (B : Bxs) (H : Nat) (g r : Nat) (ps : List Nat) : Prop := (WK L S B) ∧ (WS L S H) ∧ (ps.Nodup) ∧ (∀ p ∈ ps, S.cp g p = true) ∧ (∀ p ∈ ps, S.cp r p = false) ∧ (∀ p ∈ ps, S.kn r (p / 4) = 0) ∧ (∀ i k, S.cp i k = true → S.vb i k = true)
theorem MI.wk {L : Lts} {S : Sto} {B : Bxs} {H : Nat} {g r : Nat} {ps : List Nat} (h : MI L S B H g r ps) : WK L S B := h.1
theorem MI.ws {L : Lts} {S : Sto} {B : Bxs} {H : Nat} {g r : Nat} {ps : List Nat} (h : MI L S B H g r ps) : WS L S H := h.2.1
theorem MI.nd {L : Lts} {S : Sto} {B : Bxs} {H : Nat} {g r : Nat} {ps : List Nat} (h : MI L S B H g r ps) : ps.Nodup := h.2.2.1
theorem MI.cpg {L : Lts} {S : Sto} {B : Bxs} {H : Nat} {g r : Nat} {ps : List Nat} (h : MI L S B H g r ps) : ∀ p ∈ ps, S.cp g p = true := h.2.2.2.1
theorem MI.cpr {L : Lts} {S : Sto} {B : Bxs} {H : Nat} {g r : Nat} {ps : List Nat} (h : MI L S B H g r ps) : ∀ p ∈ ps, S.cp r p = false := h.2.2.2.2.1
theorem MI.knr {L : Lts} {S : Sto} {B : Bxs} {H : Nat} {g r : Nat} {ps : List Nat} (h : MI L S B H g r ps) : ∀ p ∈ ps, S.kn r (p / 4) = 0 := h.2.2.2.2.2.1
theorem MI.vb {L : Lts} {S : Sto} {B : Bxs} {H : Nat} {g r : Nat} {ps : List Nat} (h : MI L S B H g r ps) : ∀ i k, S.cp i k = true → S.vb i k = true := h.2.2.2.2.2.2
/-- the last piece moved can go back -/
def Lst (L : Lts) (S : Sto) (g p t : Nat) : Prop := (g < 12) ∧ (S.cp g p = false) ∧ (S.vb g p = true) ∧ (S.nw g p = t + 1) ∧ (S.hp g p = t) ∧ (cN (S.cp g) 64 + 1 ≤ capa g) ∧ (p / 4 < L.n) ∧ (p % 4 < pc (L.sz (p / 4))) ∧ (t % 2 = (if g < 8 then 0 else 1)) ∧ (S.kn g (p / 4) = 0)
theorem Lst.g12 {L : Lts} {S : Sto} {g p t : Nat} (h : Lst L S g p t) : g < 12 := h.1
theorem Lst.cp {L : Lts} {S : Sto} {g p t : Nat} (h : Lst L S g p t) : S.cp g p = false := h.2.1
theorem Lst.vb {L : Lts} {S : Sto} {g p t : Nat} (h : Lst L S g p t) : S.vb g p = true := h.2.2.1
theorem Lst.nw {L : Lts} {S : Sto} {g p t : Nat} (h : Lst L S g p t) : S.nw g p = t + 1 := h.2.2.2.1
theorem Lst.hp {L : Lts} {S : Sto} {g p t : Nat} (h : Lst L S g p t) : S.hp g p = t := h.2.2.2.2.1
theorem Lst.cap {L : Lts} {S : Sto} {g p t : Nat} (h : Lst L S g p t) : cN (S.cp g) 64 + 1 ≤ capa g := h.2.2.2.2.2.1
theorem Lst.p1 {L : Lts} {S : Sto} {g p t : Nat} (h : Lst L S g p t) : p / 4 < L.n := h.2.2.2.2.2.2.1
theorem Lst.p2 {L : Lts} {S : Sto} {g p t : Nat} (h : Lst L S g p t) : p % 4 < pc (L.sz (p / 4)) := h.2.2.2.2.2.2.2.1
theorem Lst.par {L : Lts} {S : Sto} {g p t : Nat} (h : Lst L S g p t) : t % 2 = (if g < 8 then 0 else 1) := h.2.2.2.2.2.2.2.2.1
theorem Lst.kn {L : Lts} {S : Sto} {g p t : Nat} (h : Lst L S g p t) : S.kn g (p / 4) = 0 := h.2.2.2.2.2.2.2.2.2
def LI (L : Lts) (S : Sto) (w : Option (Nat × Nat × Nat)) : Prop := match w with
  | none => True
  | some (g, p, h) => Lst L S g p h
section
variable {L : Lts} {S : Sto} {B : Bxs} {H g r p : Nat} {ps : List Nat}
theorem mv_cp {i k : Nat} (h : k ≠ p) : (mvS S g r p).cp i k = S.cp i k := by
  unfold mvS
  rw [hear_cp (by omega)]
  exact u2_ne (by omega)
theorem mv_cpg (hG : Gr g r) : (mvS S g r p).cp g p = false := by
  unfold mvS
  rw [hear_cp_at]
  have : (oTake S r p (S.hp g p + 1) (S.bt g (p / 4))).hp g p = S.hp g p := u2_ne (fun h => hG.ne h.1)
  rw [this, decide_eq_false (by omega), Bool.and_false]
theorem mv_cpi {i k : Nat} (h1 : i ≠ g) (h2 : i ≠ r) : (mvS S g r p).cp i k = S.cp i k := by
  unfold mvS
  rw [hear_cp (by omega)]
  exact u2_ne (by omega)
theorem WS_mv (hG : Gr g r) (ws : WS L S H) (hg : S.cp g p = true) (hr : S.cp r p = false) (hk : S.kn r (p / 4) = 0) (hc : cN (S.cp r) 64 ≠ capa r) : WS L (mvS S g r p) (H + 1) := by
  have hcap := ws.cap r hG.r12
  obtain ⟨h1, h2⟩ := ws.cpn g p hg
  have h3 := ws.nhp g p hg
  have h4 := ws.par g p hg
  have h5 := ws.hb g p
  have p64 : p < 64 ∨ 64 ≤ p := by omega
  have hpar : (S.hp g p + 1) % 2 = (if r < 8 then 0 else 1) := by
    have := hG.par
    by_cases c1 : g < 8
    · rw [if_pos c1] at h4 this
      by_cases c2 : r < 8
      · rw [if_pos c2] at this; exact absurd rfl this
      · rw [if_neg c2]; omega
    · rw [if_neg c1] at h4 this
      by_cases c2 : r < 8
      · rw [if_pos c2]; omega
      · rw [if_neg c2] at this; exact absurd rfl this
  have w1 : WS L (oTake S r p (S.hp g p + 1) (S.bt g (p / 4))) (H + 1) := by
    refine ⟨fun i hi => ?_, fun i k hk => ?_, fun i k hk => ?_, fun i k hk => ?_, fun i k hk' => ?_, ws.k2, ws.knn, fun i k hk => ?_, fun i k hk => ?_, fun i k => ?_, fun i k => ?_⟩
    · show cN (u2 S.cp r p true i) 64 ≤ _
      by_cases e : i = r
      · rw [e, u2_row]
        rcases p64 with q | q
        · rw [cN_up q hr]; omega
        · rw [cN_congr (g := S.cp r) (fun k hk => u1_ne (by omega))]; exact hcap
      · rw [u2_other _ _ _ e]; exact ws.cap i hi
    · have hk' : u2 S.cp r p true i k = true := hk
      by_cases e : i = r ∧ k = p
      · rw [e.2]; exact ⟨h1, h2⟩
      · rw [u2_ne e] at hk'; exact ws.cpn i k hk'
    · have hk' : u2 S.cp r p true i k = true := hk
      show u2 S.nw r p (S.hp g p + 1) i k = u2 S.hp r p (S.hp g p + 1) i k
      by_cases e : i = r ∧ k = p
      · rw [e.1, e.2, u2_at, u2_at]
      · rw [u2_ne e] at hk' ⊢; rw [u2_ne e]; exact ws.nhp i k hk'
    · have hk' : u2 S.cp r p true i k = true := hk
      show u2 S.hp r p (S.hp g p + 1) i k % 2 = _
      by_cases e : i = r ∧ k = p
      · rw [e.1, e.2, u2_at]; exact hpar
      · rw [u2_ne e] at hk' ⊢; exact ws.par i k hk'
    · show u2 S.cp r p true i k = false
      by_cases e : i = r ∧ k = p
      · rw [e.1, e.2] at hk'; exact absurd hk hk'
      · rw [u2_ne e]; exact ws.kn0 i k hk'
    · show u2 S.nw r p (S.hp g p + 1) i k = 0
      by_cases e : i = r ∧ k = p
      · rw [e.2] at hk; omega
      · rw [u2_ne e]; exact ws.nwn i k hk
    · have hk' : u2 S.vb r p true i k = true := hk
      by_cases e : i = r ∧ k = p
      · rw [e.2]; exact h1
      · rw [u2_ne e] at hk'; exact ws.vbn i k hk'
    · show u2 S.hp r p (S.hp g p + 1) i k ≤ _
      by_cases e : i = r ∧ k = p
      · rw [e.1, e.2, u2_at]; omega
      · rw [u2_ne e]; have := ws.hb i k; omega
    · show u2 S.nw r p (S.hp g p + 1) i k ≤ _
      by_cases e : i = r ∧ k = p
      · rw [e.1, e.2, u2_at]; omega
      · rw [u2_ne e]; have := ws.nb i k; omega
  refine WS_hear w1 ?_ (by omega) (.inl h1)
  show u2 S.nw r p (S.hp g p + 1) g p ≤ _
  rw [u2_ne (fun h => hG.ne h.1)]; omega
theorem look_cp {l i k : Nat} {x : Sto × Bxs} (h : ¬ (i = L.gl l ∧ k / 4 = l)) : (look L l x).1.cp i k = x.1.cp i k := by
  have key : ∀ w, (oLearn x.1 (L.gl l) l w).cp i k = x.1.cp i k := by
    intro w
    unfold oLearn
    split
    · rfl
    · show (if i = L.gl l ∧ k / 4 = l then false else x.1.cp i k) = _
      rw [if_neg h]
  unfold look
  split
  · split
    · split
      · exact key 1
      · rfl
    · exact key 2
  · rfl
theorem look_cp_sub {l i k : Nat} {x : Sto × Bxs} (h : (look L l x).1.cp i k = true) : x.1.cp i k = true := by
  by_cases e : i = L.gl l ∧ k / 4 = l
  · revert h
    unfold look
    split
    · split
      · split
        · exact fun h => learn_cp (show (oLearn x.1 (L.gl l) l 1).cp i k = true from h)
        · exact id
      · exact fun h => learn_cp (show (oLearn x.1 (L.gl l) l 2).cp i k = true from h)
    · exact id
  · rw [look_cp e] at h; exact h
theorem learn_rest {S : Sto} {i l w : Nat} : (oLearn S i l w).vb = S.vb ∧ (oLearn S i l w).nw = S.nw ∧ (oLearn S i l w).hp = S.hp ∧ (oLearn S i l w).bt = S.bt := by
  unfold oLearn; split <;> exact ⟨rfl, rfl, rfl, rfl⟩
theorem look_rest {l : Nat} {x : Sto × Bxs} : (look L l x).1.vb = x.1.vb ∧ (look L l x).1.nw = x.1.nw ∧ (look L l x).1.hp = x.1.hp ∧ (look L l x).1.bt = x.1.bt := by
  unfold look
  split
  · split
    · split
      · exact learn_rest
      · exact ⟨rfl, rfl, rfl, rfl⟩
    · exact learn_rest
  · exact ⟨rfl, rfl, rfl, rfl⟩
theorem look_kn {l i l' : Nat} {x : Sto × Bxs} (h : ¬ (i = L.gl l ∧ l' = l)) : (look L l x).1.kn i l' = x.1.kn i l' := by
  unfold look
  split
  · split
    · split
      · show (oLearn x.1 (L.gl l) l 1).kn i l' = _
        rw [kn_learn, u2_ne h]
      · rfl
    · show (oLearn x.1 (L.gl l) l 2).kn i l' = _
      rw [kn_learn, u2_ne h]
  · rfl
theorem look_kn_comp {l : Nat} {x : Sto × Bxs} (h : ¬ comp L x.1 l) : look L l x = x := by unfold look; rw [if_neg h]
theorem stp_ok (hG : Gr g r) (h : MI L S B H g r (p :: ps)) (hc : cN (S.cp r) 64 ≠ capa r) : MI L (stp L g r p (S, B)).1 (stp L g r p (S, B)).2 (H + 1) g r ps ∧ Lst L (stp L g r p (S, B)).1 g p (S.hp g p) ∧ (∀ i k, k / 4 ≠ p / 4 → (stp L g r p (S, B)).1.cp i k = S.cp i k) ∧ (∀ i l, (l ≠ p / 4 ∨ i ≠ r) → (stp L g r p (S, B)).1.kn i l = S.kn i l) ∧ (stp L g r p (S, B)).1.held = S.held := by
  obtain ⟨nd1, nd2⟩ := List.nodup_cons.mp h.nd
  have hg := h.cpg p List.mem_cons_self
  have hr := h.cpr p List.mem_cons_self
  have hk := h.knr p List.mem_cons_self
  have ws1 := WS_mv hG h.ws hg hr hk hc
  have wk1 : WK L (mvS S g r p) B := WK_kn h.wk rfl
  obtain ⟨h1, h2⟩ := h.ws.cpn g p hg
  have hw3 := h.ws.nhp g p hg
  have hgl := h.wk.wl.gl (p / 4) h1
  have vb1 : ∀ i k, (mvS S g r p).cp i k = true → (mvS S g r p).vb i k = true := by
    intro i k hk
    show u2 S.vb r p true i k = true
    by_cases e : i = r ∧ k = p
    · rw [e.1, e.2, u2_at]
    · rw [u2_ne e]
      refine h.vb i k ?_
      by_cases e2 : k = p
      · by_cases e3 : i = g
        · rw [e3, e2, mv_cpg hG] at hk; cases hk
        · rw [mv_cpi e3 (fun e4 => e ⟨e4, e2⟩)] at hk; exact hk
      · rw [mv_cp e2] at hk; exact hk
  -- what holds before the look
  have base : MI L (mvS S g r p) B (H + 1) g r ps := by
    refine ⟨wk1, ws1, nd2, fun q hq => ?_, fun q hq => ?_, fun q hq => h.knr q (List.mem_cons_of_mem _ hq), vb1⟩
    · rw [mv_cp (fun e => nd1 (by rw [← e]; exact hq))]; exact h.cpg q (List.mem_cons_of_mem _ hq)
    · rw [mv_cp (fun e => nd1 (by rw [← e]; exact hq))]; exact h.cpr q (List.mem_cons_of_mem _ hq)
  have n16 := h.wk.wl.n16
  have lst0 : Lst L (mvS S g r p) g p (S.hp g p) := by
    refine ⟨hG.g12, mv_cpg hG, ?_, ?_, ?_, ?_, h1, h2, h.ws.par g p hg, ?_⟩
    · show u2 S.vb r p true g p = true
      rw [u2_ne (fun h => hG.ne h.1)]; exact h.vb g p hg
    · show u2 _ g p (S.hp g p + 1) g p = _
      rw [u2_at]
    · show u2 S.hp r p (S.hp g p + 1) g p = _
      rw [u2_ne (fun h => hG.ne h.1)]
    · have e1 : (mvS S g r p).cp g = u1 (S.cp g) p false := by
        funext k
        by_cases e : k = p
        · rw [e, u1_at]; exact mv_cpg hG
        · rw [u1_ne e]; exact mv_cp e
      rw [e1]
      have := cN_dn (f := S.cp g) (show p < 64 by omega) hg
      have := h.ws.cap g hG.g12
      omega
    · show S.kn g (p / 4) = 0
      cases hz : S.kn g (p / 4) with
      | zero => rfl
      | succ z =>
        have := h.ws.kn0 g p (by rw [hz]; exact Nat.succ_ne_zero _)
        rw [hg] at this; cases this
  unfold stp
  by_cases c : L.gl (p / 4) = r
  · rw [if_pos c]
    obtain ⟨wk2, ws2⟩ := look_ok wk1 ws1 h1
    obtain ⟨r1, r2, r3, r4⟩ := look_rest (L := L) (l := p / 4) (x := (mvS S g r p, B))
    have hgne : ∀ k, (look L (p / 4) (mvS S g r p, B)).1.cp g k = (mvS S g r p).cp g k := fun k => look_cp (fun h => hG.ne (h.1.trans c))
    refine ⟨⟨wk2, ws2, nd2, fun q hq => ?_, fun q hq => ?_, fun q hq => ?_, fun i k hk => ?_⟩, ⟨hG.g12, ?_, ?_, ?_, ?_, ?_, h1, h2, lst0.par, ?_⟩, fun i k hk => ?_, fun i l hl => ?_, look_held⟩
    · rw [hgne]; exact base.cpg q hq
    · cases hz : (look L (p / 4) (mvS S g r p, B)).1.cp r q with
      | false => rfl
      | true => have := look_cp_sub hz; have h9 := base.cpr q hq; rw [show (mvS S g r p).cp r q = true from this] at h9; cases h9
    · by_cases e : q / 4 = p / 4
      · by_cases hcm : comp L (mvS S g r p) (p / 4)
        · have h8 : (mvS S g r p).cp r q = false := base.cpr q hq
          have h7 := (base.ws.cpn g q (base.cpg q hq)).2
          have h6 := hcm (q % 4) (by rw [← e]; exact h7)
          rw [c, show 4 * (p / 4) + q % 4 = q by omega, h8] at h6
          cases h6
        · rw [look_kn_comp hcm]; exact base.knr q hq
      · rw [look_kn (fun h => e h.2)]; exact base.knr q hq
    · rw [r1]; exact vb1 i k (look_cp_sub hk)
    · rw [hgne]; exact lst0.cp
    · rw [r1]; exact lst0.vb
    · rw [r2]; exact lst0.nw
    · rw [r3]; exact lst0.hp
    · rw [show (look L (p / 4) (mvS S g r p, B)).1.cp g = (mvS S g r p).cp g from funext hgne]; exact lst0.cap
    · rw [look_kn (fun h => hG.ne (h.1.trans c))]; exact lst0.kn
    · rw [look_cp (fun h => hk h.2)]
      exact mv_cp (fun e => hk (by rw [e]))
    · rw [look_kn (fun h => hl.elim (fun h9 => h9 h.2) (fun h9 => h9 (h.1.trans c)))]
      rfl
  · rw [if_neg c]
    exact ⟨base, lst0, fun i k hk => mv_cp (fun e => hk (by rw [e])), fun _ _ _ => rfl, rfl⟩
theorem refu_ok (h : MI L S B H g r (p :: ps)) : MI L (refu r (S, B)).1 (refu r (S, B)).2 H g r ps :=
  ⟨⟨h.wk.wl, h.wk.wb, h.wk.dlk, h.wk.dln⟩, ⟨h.ws.cap, h.ws.cpn, h.ws.nhp, h.ws.par, h.ws.kn0, h.ws.k2, h.ws.knn, h.ws.nwn, h.ws.vbn, h.ws.hb, h.ws.nb⟩, (List.nodup_cons.mp h.nd).2, fun q hq => h.cpg q (List.mem_cons_of_mem _ hq), fun q hq => h.cpr q (List.mem_cons_of_mem _ hq), fun q hq => h.knr q (List.mem_cons_of_mem _ hq), h.vb⟩
theorem LI_refu {w : Option (Nat × Nat × Nat)} (h : LI L S w) : LI L (refu r (S, B)).1 w := by
  cases w with
  | none => trivial
  | some w =>
    obtain ⟨a, b, c⟩ := w
    have h' : Lst L S a b c := h
    exact (⟨h'.g12, h'.cp, h'.vb, h'.nw, h'.hp, h'.cap, h'.p1, h'.p2, h'.par, h'.kn⟩ : Lst L (refu r (S, B)).1 a b c)
theorem mvA_ok (hG : Gr g r) {q : Nat} : ∀ (ps : List Nat) (S : Sto) (B : Bxs) (c H : Nat) (w : Option (Nat × Nat × Nat)), MI L S B H g r ps → LI L S w →
    WK L (mvA L g r q ps (S, B) c w).1.1 (mvA L g r q ps (S, B) c w).1.2 ∧ WS L (mvA L g r q ps (S, B) c w).1.1 (H + ps.length) ∧ LI L (mvA L g r q ps (S, B) c w).1.1 (mvA L g r q ps (S, B) c w).2.2 ∧ (∀ i k, (∀ p ∈ ps, k / 4 ≠ p / 4) → (mvA L g r q ps (S, B) c w).1.1.cp i k = S.cp i k) ∧ (∀ i l, (i ≠ r ∨ ∀ p ∈ ps, l ≠ p / 4) → (mvA L g r q ps (S, B) c w).1.1.kn i l = S.kn i l) ∧ (∀ i k, (mvA L g r q ps (S, B) c w).1.1.cp i k = true → (mvA L g r q ps (S, B) c w).1.1.vb i k = true) ∧ (mvA L g r q ps (S, B) c w).1.1.held = S.held ∧ (c ≤ (mvA L g r q ps (S, B) c w).2.1 ∧ (mvA L g r q ps (S, B) c w).2.1 ≤ max c q) := by
  intro ps
  induction ps with
  | nil => intro S B c H w h hw; exact ⟨h.wk, h.ws, hw, fun _ _ _ => rfl, fun _ _ _ => rfl, h.vb, rfl, Nat.le_refl _, by show c ≤ _; omega⟩
  | cons p ps ih =>
    intro S B c H w h hw
    unfold mvA
    by_cases c1 : q ≤ c
    · rw [if_pos c1]; exact ⟨h.wk, h.ws.mono (by omega), hw, fun _ _ _ => rfl, fun _ _ _ => rfl, h.vb, rfl, Nat.le_refl _, by show c ≤ _; omega⟩
    · rw [if_neg c1]
      by_cases c2 : cN (S.cp r) 64 = capa r
      · have c2' : cN ((S, B).1.cp r) 64 = capa r := c2
        rw [if_pos c2']
        obtain ⟨a1, a2, a3, a4, a5, a6, a7, a8⟩ := ih (refu r (S, B)).1 (refu r (S, B)).2 c H w (refu_ok h) (LI_refu hw)
        exact ⟨a1, a2.mono (by rw [List.length_cons]; omega), a3, fun i k hk => a4 i k (fun q hq => hk q (List.mem_cons_of_mem _ hq)), fun i l hl => a5 i l (hl.imp id fun hl q hq => hl q (List.mem_cons_of_mem _ hq)), a6, a7, a8⟩
      · have c2' : ¬ cN ((S, B).1.cp r) 64 = capa r := c2
        rw [if_neg c2']
        obtain ⟨b1, b2, b3, b4, b5⟩ := stp_ok hG h c2
        obtain ⟨a1, a2, a3, a4, a5, a6, a7, a8⟩ := ih (stp L g r p (S, B)).1 (stp L g r p (S, B)).2 (c + 1) (H + 1) (some (g, p, S.hp g p)) b1 b2
        refine ⟨a1, a2.mono (by rw [List.length_cons]; omega), a3, fun i k hk => (a4 i k (fun q hq => hk q (List.mem_cons_of_mem _ hq))).trans (b3 i k (hk p List.mem_cons_self)), fun i l hl => (a5 i l (hl.imp id fun hl q hq => hl q (List.mem_cons_of_mem _ hq))).trans (b4 i l (hl.elim (fun h => .inr h) (fun h => .inl (h p List.mem_cons_self)))), a6, a7.trans b5, ?_, ?_⟩
        · exact Nat.le_trans (Nat.le_succ c) a8.1
        · have := a8.2
          exact Nat.le_trans this (by omega)
end

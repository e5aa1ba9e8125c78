-- expiry
def expS (L : Lts) (S : Sto) (D : Nat → Bool) : Sto := (mkSto (fun i k => if D (k / 4) then false else S.cp i k) S.vb S.hp S.nw S.kn S.bt S.held (fun i => S.ea i + cN (fun l => D l && (decide (S.kn (L.gl l) l = 0) && decide (c4 (S.cp i) l ≠ 0))) 16) S.rf)
def expL (L : Lts) (S : Sto) (D : Nat → Bool) : Lts := (mkLts L.n L.sz L.srt L.org L.gl L.ad L.ps L.sm L.pr (fun l => if D l then decide (S.kn (L.gl l) l = 0) else L.ex l))
def due (L : Lts) (a b l : Nat) : Bool := decide (l < L.n ∧ a < L.ps l + 7200 ∧ L.ps l + 7200 ≤ b)
def oExp1 (S : Sto) (l : Nat) (e : Bool) : Sto := (mkSto (fun i k => if k / 4 = l then false else S.cp i k) S.vb S.hp S.nw S.kn S.bt S.held (fun i => S.ea i + (if e && decide (c4 (S.cp i) l ≠ 0) then 1 else 0)) S.rf)
theorem cN_false {f : Nat → Bool} (h : ∀ l, f l = false) (n : Nat) : cN f n = 0 := by
  induction n with
  | zero => rfl
  | succ n ih => simp only [cN]; rw [ih, h n]; rfl
theorem expS_0 (L : Lts) (S : Sto) {D : Nat → Bool} (h : ∀ l, D l = false) : expS L S D = S := by
  have h1 : (fun i k => if D (k / 4) then false else S.cp i k) = S.cp := by funext i k; rw [h]; rfl
  have h2 : (fun i => S.ea i + cN (fun l => D l && (decide (S.kn (L.gl l) l = 0) && decide (c4 (S.cp i) l ≠ 0))) 16) = S.ea := by
    funext i; rw [cN_false (fun l => by rw [h]; rfl)]; rfl
  unfold expS; rw [h1, h2]
theorem expL_0 (L : Lts) (S : Sto) {D : Nat → Bool} (h : ∀ l, D l = false) : expL L S D = L := by
  have h1 : (fun l => if D l then decide (S.kn (L.gl l) l = 0) else L.ex l) = L.ex := by funext l; rw [h]; rfl
  unfold expL; rw [h1]
theorem c4_congr {f g : Nat → Bool} {l : Nat} (h : ∀ k, k / 4 = l → f k = g k) : c4 f l = c4 g l := cN_congr fun q hq => h _ (by omega)
theorem cN_u1 {f : Nat → Bool} {l n : Nat} {v : Bool} (hl : l < n) (hf : f l = false) : cN (u1 f l v) n = cN f n + (if v then 1 else 0) := by
  cases v with
  | false => rw [u1_same hf]; rfl
  | true => exact cN_up hl hf
theorem expS_step {L : Lts} {S : Sto} {D : Nat → Bool} {l : Nat} (hl : l < 16) (hD : D l = false) : oExp1 (expS L S D) l (decide (S.kn (L.gl l) l = 0)) = expS L S (u1 D l true) := by
  have h1 : (fun i k => if k / 4 = l then false else (if D (k / 4) then false else S.cp i k)) = (fun i k => if u1 D l true (k / 4) then false else S.cp i k) := by
    funext i k
    by_cases e : k / 4 = l
    · rw [if_pos e, e, u1_at]; rfl
    · rw [if_neg e, u1_ne e]
  have h2 : (fun i => (S.ea i + cN (fun l => D l && (decide (S.kn (L.gl l) l = 0) && decide (c4 (S.cp i) l ≠ 0))) 16) + (if decide (S.kn (L.gl l) l = 0) && decide (c4 (fun k => if D (k / 4) then false else S.cp i k) l ≠ 0) then 1 else 0)) = (fun i => S.ea i + cN (fun l' => u1 D l true l' && (decide (S.kn (L.gl l') l' = 0) && decide (c4 (S.cp i) l' ≠ 0))) 16) := by
    funext i
    have e1 : c4 (fun k => if D (k / 4) then false else S.cp i k) l = c4 (S.cp i) l := c4_congr fun k hk => by rw [hk, hD]; rfl
    have e2 : (fun l' => u1 D l true l' && (decide (S.kn (L.gl l') l' = 0) && decide (c4 (S.cp i) l' ≠ 0))) = u1 (fun l => D l && (decide (S.kn (L.gl l) l = 0) && decide (c4 (S.cp i) l ≠ 0))) l (decide (S.kn (L.gl l) l = 0) && decide (c4 (S.cp i) l ≠ 0)) := by
      funext l'
      by_cases e : l' = l
      · rw [e, u1_at, u1_at]; rfl
      · rw [u1_ne e, u1_ne e]
    rw [e1, e2, cN_u1 hl (by rw [hD]; rfl)]; omega
  show (mkSto (fun i k => if k / 4 = l then false else (if D (k / 4) then false else S.cp i k)) S.vb S.hp S.nw S.kn S.bt S.held (fun i => (S.ea i + cN (fun l => D l && (decide (S.kn (L.gl l) l = 0) && decide (c4 (S.cp i) l ≠ 0))) 16) + (if decide (S.kn (L.gl l) l = 0) && decide (c4 (fun k => if D (k / 4) then false else S.cp i k) l ≠ 0) then 1 else 0)) S.rf) = _
  rw [h1, h2]; rfl
theorem expS_comp {L : Lts} {S : Sto} {D1 D2 : Nat → Bool} (h : ∀ l, D2 l = true → D1 l = false) : expS (expL L S D1) (expS L S D1) D2 = expS L S (fun l => D1 l || D2 l) := by
  have h1 : (fun i k => if D2 (k / 4) then false else (if D1 (k / 4) then false else S.cp i k)) = (fun i k => if D1 (k / 4) || D2 (k / 4) then false else S.cp i k) := by
    funext i k
    cases D1 (k / 4) <;> cases D2 (k / 4) <;> rfl
  have gen : ∀ (x y : Bool) (a b : Nat), (y = true → x = false) → (a + if x then 1 else 0) + (b + if y then 1 else 0) = a + b + if (x || y) then 1 else 0 := by
    intro x y a b h
    cases x <;> cases y <;> simp at h ⊢ <;> omega
  have hs : ∀ (f g : Nat → Bool) (n : Nat), (∀ l, g l = true → f l = false) → cN f n + cN g n = cN (fun l => f l || g l) n := by
    intro f g n hd
    induction n with
    | zero => rfl
    | succ n ih =>
      simp only [cN]
      rw [← ih]
      exact gen _ _ _ _ (hd n)
  have h2 : (fun i => (S.ea i + cN (fun l => D1 l && (decide (S.kn (L.gl l) l = 0) && decide (c4 (S.cp i) l ≠ 0))) 16) + cN (fun l => D2 l && (decide (S.kn (L.gl l) l = 0) && decide (c4 (fun k => if D1 (k / 4) then false else S.cp i k) l ≠ 0))) 16) = (fun i => S.ea i + cN (fun l => (D1 l || D2 l) && (decide (S.kn (L.gl l) l = 0) && decide (c4 (S.cp i) l ≠ 0))) 16) := by
    funext i
    have e2 : (fun l => D2 l && (decide (S.kn (L.gl l) l = 0) && decide (c4 (fun k => if D1 (k / 4) then false else S.cp i k) l ≠ 0))) = (fun l => D2 l && (decide (S.kn (L.gl l) l = 0) && decide (c4 (S.cp i) l ≠ 0))) := by
      funext l
      cases hd : D2 l with
      | false => rfl
      | true => rw [show c4 (fun k => if D1 (k / 4) then false else S.cp i k) l = c4 (S.cp i) l from c4_congr fun k hk => by rw [hk, h l hd]; rfl]
    rw [e2, Nat.add_assoc, hs _ _ _ (fun l hl => by
      have : D2 l = true := by
        cases hd : D2 l with
        | true => rfl
        | false => rw [hd] at hl; cases hl
      rw [h l this]; rfl)]
    congr 2
    funext l
    cases D1 l <;> cases D2 l <;> simp
  show (mkSto (fun i k => if D2 (k / 4) then false else (if D1 (k / 4) then false else S.cp i k)) S.vb S.hp S.nw S.kn S.bt S.held (fun i => (S.ea i + cN (fun l => D1 l && (decide (S.kn (L.gl l) l = 0) && decide (c4 (S.cp i) l ≠ 0))) 16) + cN (fun l => D2 l && (decide (S.kn (L.gl l) l = 0) && decide (c4 (fun k => if D1 (k / 4) then false else S.cp i k) l ≠ 0))) 16) S.rf) = _
  rw [h1, h2]; rfl
theorem expL_comp {L : Lts} {S : Sto} {D1 D2 : Nat → Bool} (h : ∀ l, D2 l = true → D1 l = false) : expL (expL L S D1) (expS L S D1) D2 = expL L S (fun l => D1 l || D2 l) := by
  have h1 : (fun l => if D2 l then decide (S.kn (L.gl l) l = 0) else (if D1 l then decide (S.kn (L.gl l) l = 0) else L.ex l)) = (fun l => if D1 l || D2 l then decide (S.kn (L.gl l) l = 0) else L.ex l) := by
    funext l
    cases D1 l <;> cases D2 l <;> rfl
  show (mkLts L.n L.sz L.srt L.org L.gl L.ad L.ps L.sm L.pr (fun l => if D2 l then decide (S.kn (L.gl l) l = 0) else (if D1 l then decide (S.kn (L.gl l) l = 0) else L.ex l))) = _
  rw [h1]; rfl
theorem expL_step {L : Lts} {S : Sto} {D : Nat → Bool} {l : Nat} : (mkLts (expL L S D).n (expL L S D).sz (expL L S D).srt (expL L S D).org (expL L S D).gl (expL L S D).ad (expL L S D).ps (expL L S D).sm (expL L S D).pr (u1 (expL L S D).ex l (decide (S.kn (L.gl l) l = 0)))) = expL L S (u1 D l true) := by
  have h1 : u1 (fun l => if D l then decide (S.kn (L.gl l) l = 0) else L.ex l) l (decide (S.kn (L.gl l) l = 0)) = (fun l' => if u1 D l true l' then decide (S.kn (L.gl l') l' = 0) else L.ex l') := by
    funext l'
    by_cases e : l' = l
    · rw [e, u1_at, u1_at]; rfl
    · rw [u1_ne e, u1_ne e]
  show (mkLts L.n L.sz L.srt L.org L.gl L.ad L.ps L.sm L.pr (u1 (fun l => if D l then decide (S.kn (L.gl l) l = 0) else L.ex l) l (decide (S.kn (L.gl l) l = 0)))) = _
  rw [h1]; rfl
theorem due_comp {L : Lts} {a b c : Nat} (h1 : a ≤ b) (h2 : b ≤ c) : (fun l => due L a b l || due L b c l) = due L a c := by
  funext l; unfold due
  rw [← Bool.decide_or]
  exact decide_eq_decide.mpr (by omega)
theorem due_dis {L : Lts} {a b c l : Nat} (h : due L b c l = true) : due L a b l = false := by
  unfold due at *
  have := of_decide_eq_true h
  exact decide_eq_false (by omega)
theorem due_0 {L : Lts} {a l : Nat} : due L a a l = false := decide_eq_false (by omega)
-- the pictures stay well formed
theorem exp_ok {L : Lts} {S : Sto} {B : Bxs} {H : Nat} (D : Nat → Bool) (wk : WK L S B) (ws : WS L S H) : WK (expL L S D) (expS L S D) B ∧ WS (expL L S D) (expS L S D) H := by
  have hc : ∀ i k, (if D (k / 4) then false else S.cp i k) = true → S.cp i k = true := by
    intro i k h; cases hd : D (k / 4) with
    | true => rw [hd] at h; cases h
    | false => rw [hd] at h; exact h
  refine ⟨⟨⟨wk.wl.n16, wk.wl.s1, wk.wl.s32, wk.wl.srt, wk.wl.org, wk.wl.gl, wk.wl.ad⟩, ⟨wk.wb.len, wk.wb.mem, wk.wb.q200⟩, wk.dlk, wk.dln⟩, ⟨fun i hi => Nat.le_trans (cN_mono fun k _ => hc i k) (ws.cap i hi), fun i k h => ws.cpn i k (hc i k h), fun i k h => ws.nhp i k (hc i k h), fun i k h => ws.par i k (hc i k h), fun i k h => ?_, ws.k2, ws.knn, ws.nwn, ws.vbn, ws.hb, ws.nb⟩⟩
  show (if D (k / 4) then false else S.cp i k) = false
  split
  · rfl
  · exact ws.kn0 i k h
-- once looked at, a letter lies still
def Qt (L : Lts) (S : Sto) (B : Bxs) (n : Nat) : Prop := ∀ l, l < n → comp L S l → sumF (S.bt (L.gl l) l) (L.sz l) = L.sm l ∧ allb L.sz B (L.gl l) l (adr L B l 0) (adr L B l 1) (adr L B l 2) = false
theorem Qt_look {L : Lts} {S : Sto} {B : Bxs} {l : Nat} (h : Qt L S B L.n) (hl : l < L.n) : look L l (S, B) = (S, B) := by
  unfold look
  by_cases hc : comp L S l
  · obtain ⟨h1, h2⟩ := h l hl hc
    rw [if_pos hc, if_pos h1]
    simp only [h2]; rfl
  · rw [if_neg hc]
theorem Qt_lookF {L : Lts} {S : Sto} {B : Bxs} (h : Qt L S B L.n) (P : Nat → Bool) : ∀ m l, l + m ≤ L.n → lookF L P m l (S, B) = (S, B) := by
  intro m
  induction m with
  | zero => intro l _; rfl
  | succ m ih =>
    intro l hl
    unfold lookF
    have : (if P l then look L l (S, B) else (S, B)) = (S, B) := by
      cases P l with
      | true => exact Qt_look h (by omega)
      | false => rfl
    rw [this]; exact ih (l + 1) (by omega)
theorem Qt_exp {L : Lts} {S : Sto} {B : Bxs} {n : Nat} (D : Nat → Bool) (h : Qt L S B n) : Qt (expL L S D) (expS L S D) B n := by
  intro l hl hc
  refine h l hl fun p hp => ?_
  have h1 : (if D ((4 * l + p) / 4) then false else S.cp (L.gl l) (4 * l + p)) = true := hc p hp
  cases hd : D ((4 * l + p) / 4) with
  | true => rw [hd] at h1; cases h1
  | false => rw [hd] at h1; exact h1
theorem byS_put {sz : Nat → Nat} {B : Bxs} {g l : Nat} {a0 a1 a2 : Bool} (x : Nat) : byS sz (B.lies x) ≤ byS sz ((oPut3 B g l a0 a1 a2).lies x) := by
  rcases put3_lies (B := B) (l := l) (g := g) (a0 := a0) (a1 := a1) (a2 := a2) x with h | h
  · rw [h]; exact Nat.le_refl _
  · rw [h, byS_app]; exact Nat.le_add_right _ _
theorem put3_memb {B : Bxs} {g l : Nat} {a0 a1 a2 : Bool} : (oPut3 B g l a0 a1 a2).memb = B.memb := by
  unfold oPut3; rw [oPutIf_memb, oPutIf_memb, oPutIf_memb]
theorem allb_mono {sz : Nat → Nat} {B B' : Bxs} {g l : Nat} {a0 a1 a2 : Bool} (hq : B'.quo = B.quo) (hl : ∀ x, byS sz (B.lies x) ≤ byS sz (B'.lies x)) (h : allb sz B g l a0 a1 a2 = false) : allb sz B' g l a0 a1 a2 = false := by
  have key : ∀ x, fitb sz B' l x = true → fitb sz B l x = true := by
    intro x hx
    unfold fitb at *
    rw [hq] at hx
    cases hc : B.quo x with
    | none => rw [hc] at hx; cases hx
    | some q =>
      rw [hc] at hx
      have h1 := of_decide_eq_true hx
      have h2 := hl x
      exact decide_eq_true (by omega)
  cases hb : allb sz B' g l a0 a1 a2 with
  | false => rfl
  | true =>
    rw [← h]; symm
    unfold allb at *
    simp only [Bool.and_eq_true, Bool.or_eq_true] at *
    obtain ⟨h0, ⟨h1, h2⟩, h3⟩ := hb
    exact ⟨h0, ⟨h1.imp id (key _), h2.imp id (key _)⟩, h3.imp id (key _)⟩
theorem Qt_step {L : Lts} {S : Sto} {B : Bxs} {l : Nat} (wl : WL L) (hl : l < L.n) (h : Qt L S B l) : Qt L (look L l (S, B)).1 (look L l (S, B)).2 (l + 1) := by
  have hs1 := wl.s1 l hl
  have hpc : ∀ l, pc (L.sz l) ≤ 4 := fun l => by have := wl.s32 l; unfold pc; omega
  -- what a learning leaves
  have hcp : ∀ w, w ≠ 0 → ∀ l', comp L (oLearn S (L.gl l) l w) l' → l' ≠ l ∧ comp L S l' := by
    intro w hw l' hc
    have h1 : ∀ p, p < pc (L.sz l') → (if L.gl l' = L.gl l ∧ (4 * l' + p) / 4 = l then false else S.cp (L.gl l') (4 * l' + p)) = true := by
      intro p hp
      have := hc p hp
      unfold oLearn at this
      rw [if_neg hw] at this
      exact this
    have h2 : l' ≠ l := by
      intro e
      subst e
      have := h1 0 (by unfold pc; omega)
      rw [if_pos ⟨rfl, by omega⟩] at this
      cases this
    refine ⟨h2, fun p hp => ?_⟩
    have h3 := h1 p hp
    have := hpc l'
    rw [if_neg (fun h9 => h2 (by omega))] at h3
    exact h3
  have hbt : ∀ w, (oLearn S (L.gl l) l w).bt = S.bt := by intro w; unfold oLearn; split <;> rfl
  unfold look
  by_cases hc : comp L S l
  · rw [if_pos hc]
    by_cases hsm : sumF (S.bt (L.gl l) l) (L.sz l) = L.sm l
    · rw [if_pos hsm]
      cases hall : allb L.sz B (L.gl l) l (adr L B l 0) (adr L B l 1) (adr L B l 2) with
      | true =>
        show Qt L (oLearn S (L.gl l) l 1) (oDel L S B l) (l + 1)
        intro l' hl' hc'
        obtain ⟨h1, h2⟩ := hcp 1 (by decide) l' hc'
        obtain ⟨h3, h4⟩ := h l' (by omega) h2
        refine ⟨?_, ?_⟩
        · show sumF ((oLearn S (L.gl l) l 1).bt (L.gl l') l') (L.sz l') = _
          rw [hbt]; exact h3
        · show allb L.sz (oDel L S B l) (L.gl l') l' (adr L (oDel L S B l) l' 0) (adr L (oDel L S B l) l' 1) (adr L (oDel L S B l) l' 2) = false
          have ea : ∀ b, adr L (oDel L S B l) l' b = adr L B l' b := fun b => by
            unfold adr
            show (if L.ad l' < 3 then _ else (oPut3 B (L.gl l) l _ _ _).memb (L.gl l') (L.ad l' - 3) b) = _
            rw [put3_memb]
          rw [ea, ea, ea]
          exact allb_mono put3_quo (fun x => byS_put x) h4
      | false =>
        show Qt L S B (l + 1)
        intro l' hl' hc'
        by_cases e : l' = l
        · rw [e]; exact ⟨hsm, hall⟩
        · exact h l' (by omega) hc'
    · rw [if_neg hsm]
      intro l' hl' hc'
      obtain ⟨h1, h2⟩ := hcp 2 (by decide) l' hc'
      obtain ⟨h3, h4⟩ := h l' (by omega) h2
      refine ⟨?_, h4⟩
      show sumF ((oLearn S (L.gl l) l 2).bt (L.gl l') l') (L.sz l') = _
      rw [hbt]; exact h3
  · rw [if_neg hc]
    intro l' hl' hc'
    by_cases e : l' = l
    · rw [e] at hc'; exact absurd hc' hc
    · exact h l' (by omega) hc'
theorem Qt_all {L : Lts} (wl : WL L) : ∀ (m l : Nat) (S : Sto) (B : Bxs), l + m = L.n → Qt L S B l → Qt L (lookF L (fun _ => true) m l (S, B)).1 (lookF L (fun _ => true) m l (S, B)).2 L.n := by
  intro m
  induction m with
  | zero => intro l S B hl h; rw [show L.n = l by omega]; exact h
  | succ m ih =>
    intro l S B hl h
    unfold lookF
    rw [if_pos rfl]
    exact ih (l + 1) _ _ (by omega) (Qt_step wl (by omega) h)

-- sharing of news, on the pictures
section
variable {L : Lts} {S : Sto} {B : Bxs} {H : Nat}
theorem WS_hear (ws : WS L S H) {i p t : Nat} (h1 : S.nw i p ≤ t) (h2 : t ≤ H) (h3 : p / 4 < L.n ∨ t = 0) : WS L (oHear S i p t) H := by
  have hc : ∀ i' k, u2 S.cp i p (S.cp i p && decide (t ≤ S.hp i p)) i' k = true → S.cp i' k = true ∧ ((i' = i ∧ k = p) → t ≤ S.hp i p) := by
    intro i' k h
    by_cases e : i' = i ∧ k = p
    · rw [e.1, e.2, u2_at] at h
      rw [Bool.and_eq_true] at h
      exact ⟨by rw [e.1, e.2]; exact h.1, fun _ => of_decide_eq_true h.2⟩
    · rw [u2_ne e] at h; exact ⟨h, fun h9 => absurd h9 e⟩
  refine ⟨fun i' hi' => Nat.le_trans (cN_mono fun k _ hk => (hc i' k hk).1) (ws.cap i' hi'), fun i' k hk => ws.cpn i' k (hc i' k hk).1, fun i' k hk => ?_, fun i' k hk => ws.par i' k (hc i' k hk).1, fun i' k hk => ?_, ws.k2, ws.knn, fun i' k hk => ?_, ws.vbn, ws.hb, fun i' k => ?_⟩
  · show u2 S.nw i p t i' k = S.hp i' k
    have h4 := hc i' k hk
    have h5 := ws.nhp i' k h4.1
    by_cases e : i' = i ∧ k = p
    · rw [e.1, e.2, u2_at]
      have h6 := h4.2 e
      rw [e.1, e.2] at h5
      omega
    · rw [u2_ne e]; exact h5
  · show u2 S.cp i p (S.cp i p && decide (t ≤ S.hp i p)) i' k = false
    cases h : u2 S.cp i p (S.cp i p && decide (t ≤ S.hp i p)) i' k with
    | false => rfl
    | true => have h5 := ws.kn0 i' k hk; rw [(hc i' k h).1] at h5; cases h5
  · show u2 S.nw i p t i' k = 0
    by_cases e : i' = i ∧ k = p
    · rw [e.1, e.2, u2_at]
      rw [e.2] at hk
      rcases h3 with h | h
      · omega
      · exact h
    · rw [u2_ne e]; exact ws.nwn i' k hk
  · show u2 S.nw i p t i' k ≤ H
    by_cases e : i' = i ∧ k = p
    · rw [e.1, e.2, u2_at]; exact h2
    · rw [u2_ne e]; exact ws.nb i' k
def frm (x y : Nat) : Nat := if x = 1 ∨ y = 1 then 1 else if x = 2 ∨ y = 2 then 2 else 0
theorem frm_2 (x y : Nat) : frm x y ≤ 2 := by
  unfold frm
  split
  · decide
  · split <;> decide
def shr (S : Sto) (b k p : Nat) : Sto := oHear (oHear S b p (max (S.nw b p) (S.nw k p))) k p (max (S.nw b p) (S.nw k p))
def shrN (S : Sto) (b k : Nat) : Nat → Sto
  | 0 => S
  | p + 1 => shr (shrN S b k p) b k p
def lrn (S : Sto) (b k l : Nat) : Sto := oLearn (oLearn S b l (frm (S.kn b l) (S.kn k l))) k l (frm (S.kn b l) (S.kn k l))
def lrnN (S : Sto) (b k : Nat) : Nat → Sto
  | 0 => S
  | l + 1 => lrn (lrnN S b k l) b k l
theorem hear_nw {i p t i' p' : Nat} (h : ¬ (i' = i ∧ p' = p)) : (oHear S i p t).nw i' p' = S.nw i' p' := u2_ne h
theorem hear_cp {i p t i' p' : Nat} (h : ¬ (i' = i ∧ p' = p)) : (oHear S i p t).cp i' p' = S.cp i' p' := u2_ne h
theorem hear_cp_at {i p t : Nat} : (oHear S i p t).cp i p = (S.cp i p && decide (t ≤ S.hp i p)) := u2_at
theorem WS_shr (ws : WS L S H) {b k p : Nat} (hbk : b ≠ k) (h3 : p / 4 < L.n ∨ (S.nw b p = 0 ∧ S.nw k p = 0)) : WS L (shr S b k p) H := by
  have h1 := ws.nb b p
  have h2 := ws.nb k p
  have h4 : p / 4 < L.n ∨ max (S.nw b p) (S.nw k p) = 0 := h3.imp id (fun h => by omega)
  refine WS_hear (WS_hear ws (by omega) (by omega) h4) ?_ (by omega) h4
  rw [hear_nw (by omega)]; omega
theorem shr_cp {b k p i p' : Nat} (h : p' ≠ p) : (shr S b k p).cp i p' = S.cp i p' := by
  unfold shr; rw [hear_cp (by omega), hear_cp (by omega)]
theorem shr_nb (ws : WS L S H) {b k p : Nat} (hb : ¬ b < 8) (hk : k < 8) : ¬ ((shr S b k p).cp b p = true ∧ (shr S b k p).cp k p = true) := by
  intro ⟨h1, h2⟩
  unfold shr at h1 h2
  rw [hear_cp (by omega), hear_cp_at, Bool.and_eq_true] at h1
  rw [hear_cp_at, Bool.and_eq_true, hear_cp (by omega)] at h2
  have a1 := of_decide_eq_true h1.2
  have a2 : max (S.nw b p) (S.nw k p) ≤ S.hp k p := of_decide_eq_true h2.2
  have a3 := ws.nhp b p h1.1
  have a4 := ws.nhp k p h2.1
  have a5 := ws.par b p h1.1
  have a6 := ws.par k p h2.1
  rw [if_neg hb] at a5
  rw [if_pos hk] at a6
  omega
theorem shr_id {b k p : Nat} (h1 : S.nw b p = 0) (h2 : S.nw k p = 0) (h3 : S.cp b p = false) (h4 : S.cp k p = false) : shr S b k p = S := by
  have key : ∀ i, S.nw i p = 0 → S.cp i p = false → oHear S i p 0 = S := by
    intro i g1 g2
    unfold oHear
    rw [u2_same g1, u2_same (by rw [g2]; rfl)]
  unfold shr
  rw [h1, h2, show max 0 0 = 0 from rfl, key b h1 h3, key k h2 h4]
theorem shrN_ok (ws : WS L S H) {b k : Nat} (hb : ¬ b < 8) (hk : k < 8) : ∀ m, m ≤ 4 * L.n → WS L (shrN S b k m) H ∧ (∀ p, p < m → ¬ ((shrN S b k m).cp b p = true ∧ (shrN S b k m).cp k p = true)) := by
  intro m
  induction m with
  | zero => intro _; exact ⟨ws, fun p hp => absurd hp (Nat.not_lt_zero _)⟩
  | succ m ih =>
    intro hm
    obtain ⟨h1, h2⟩ := ih (by omega)
    refine ⟨WS_shr h1 (by omega) (.inl (by omega)), fun p hp => ?_⟩
    by_cases e : p = m
    · rw [e]; exact shr_nb h1 hb hk
    · show ¬ ((shr (shrN S b k m) b k m).cp b p = true ∧ (shr (shrN S b k m) b k m).cp k p = true)
      rw [shr_cp e, shr_cp e]; exact h2 p (by omega)
theorem shrN_far (ws : WS L S H) {b k : Nat} (hb : ¬ b < 8) (hk : k < 8) : ∀ m, shrN S b k (4 * L.n + m) = shrN S b k (4 * L.n) := by
  obtain ⟨h1, h2⟩ := shrN_ok ws hb hk (4 * L.n) (Nat.le_refl _)
  have hno : ∀ i p, 4 * L.n ≤ p → (shrN S b k (4 * L.n)).cp i p = false := by
    intro i p hp
    cases h : (shrN S b k (4 * L.n)).cp i p with
    | false => rfl
    | true => have := (h1.cpn i p h).1; omega
  intro m
  induction m with
  | zero => rfl
  | succ m ih =>
    show shr (shrN S b k (4 * L.n + m)) b k (4 * L.n + m) = _
    rw [ih]
    exact shr_id (h1.nwn _ _ (by omega)) (h1.nwn _ _ (by omega)) (hno _ _ (by omega)) (hno _ _ (by omega))
theorem learn_cp {i l w i' p : Nat} (h : (oLearn S i l w).cp i' p = true) : S.cp i' p = true := by
  unfold oLearn at h
  split at h
  · exact h
  · have h' : (if i' = i ∧ p / 4 = l then false else S.cp i' p) = true := h
    split at h'
    · cases h'
    · exact h'
theorem WS_lrn (ws : WS L S H) {b k l : Nat} (hl : l < L.n) : WS L (lrn S b k l) H := WS_learn (WS_learn ws hl (frm_2 _ _)) hl (frm_2 _ _)
theorem lrn_kn {b k l i l' : Nat} : (lrn S b k l).kn i l' = if (i = b ∨ i = k) ∧ l' = l then frm (S.kn b l) (S.kn k l) else S.kn i l' := by
  unfold lrn
  rw [kn_learn, kn_learn]
  by_cases e1 : i = k ∧ l' = l
  · rw [e1.1, e1.2, u2_at, if_pos ⟨.inr rfl, rfl⟩]
  · rw [u2_ne e1]
    by_cases e2 : i = b ∧ l' = l
    · rw [e2.1, e2.2, u2_at, if_pos ⟨.inl rfl, rfl⟩]
    · rw [u2_ne e2, if_neg (by omega)]
theorem frm_ne {x y : Nat} (hx : x ≤ 2) (hy : y ≤ 2) (h : x ≠ 0 ∨ y ≠ 0) : frm x y ≠ 0 := by
  unfold frm
  split
  · decide
  · split
    · decide
    · omega
theorem lrnN_ok (wk : WK L S B) (ws : WS L S H) {b k : Nat} : ∀ m, m ≤ L.n → WK L (lrnN S b k m) B ∧ WS L (lrnN S b k m) H ∧ (∀ l, l < m → (lrnN S b k m).kn b l = (lrnN S b k m).kn k l) ∧ (∀ i p, (lrnN S b k m).cp i p = true → S.cp i p = true) ∧ (lrnN S b k m).held = S.held ∧ (∀ l, m ≤ l → (lrnN S b k m).kn b l = S.kn b l ∧ (lrnN S b k m).kn k l = S.kn k l) := by
  intro m
  induction m with
  | zero => intro _; exact ⟨wk, ws, fun l hl => absurd hl (Nat.not_lt_zero _), fun _ _ h => h, rfl, fun _ _ => ⟨rfl, rfl⟩⟩
  | succ m ih =>
    intro hm
    obtain ⟨h1, h2, h3, h4, h5, h6⟩ := ih (by omega)
    refine ⟨⟨h1.wl, h1.wb, fun l hl => ?_, h1.dln⟩, WS_lrn h2 (by omega), fun l hl => ?_, fun i p h => h4 i p (learn_cp (learn_cp h)), ?_, fun l hl => ?_⟩
    · show (lrn (lrnN S b k m) b k m).kn (L.gl l) l ≠ 0
      rw [lrn_kn]
      have g1 := h1.dlk l hl
      split
      · next e =>
        refine frm_ne (h2.k2 _ _) (h2.k2 _ _) ?_
        rw [e.2] at g1
        rw [e.2] at e
        rcases e.1 with e3 | e3
        · rw [e3] at g1; exact .inl g1
        · rw [e3] at g1; exact .inr g1
      · exact g1
    · show (lrn (lrnN S b k m) b k m).kn b l = (lrn (lrnN S b k m) b k m).kn k l
      rw [lrn_kn, lrn_kn]
      by_cases e : l = m
      · rw [if_pos ⟨.inl rfl, e⟩, if_pos ⟨.inr rfl, e⟩]
      · rw [if_neg (fun h => e h.2), if_neg (fun h => e h.2)]; exact h3 l (by omega)
    · show (lrn (lrnN S b k m) b k m).held = _
      unfold lrn; rw [held_learn, held_learn]; exact h5
    · show (lrn (lrnN S b k m) b k m).kn b l = _ ∧ (lrn (lrnN S b k m) b k m).kn k l = _
      rw [lrn_kn, lrn_kn, if_neg (by omega), if_neg (by omega)]; exact h6 l (by omega)
end

-- counting
def cN (f : Nat → Bool) : Nat → Nat
  | 0 => 0
  | n + 1 => cN f n + (if f n then 1 else 0)
theorem cN_le (f : Nat → Bool) (n : Nat) : cN f n ≤ n := by
  induction n with
  | zero => exact Nat.le_refl _
  | succ n ih => simp only [cN]; split <;> omega
theorem cN_congr {f g : Nat → Bool} {n : Nat} (h : ∀ k, k < n → f k = g k) : cN f n = cN g n := by
  induction n with
  | zero => rfl
  | succ n ih => simp only [cN]; rw [ih fun k hk => h k (by omega), h n (by omega)]
theorem cN_up {f : Nat → Bool} {k n : Nat} (hk : k < n) (hf : f k = false) : cN (u1 f k true) n = cN f n + 1 := by
  induction n with
  | zero => omega
  | succ n ih =>
    simp only [cN]
    by_cases h : k = n
    · subst h
      rw [cN_congr (g := f) (fun j hj => u1_ne (by omega)), u1_at, hf]; simp
    · rw [ih (by omega), u1_ne (by omega)]; omega
theorem cN_dn {f : Nat → Bool} {k n : Nat} (hk : k < n) (hf : f k = true) : cN (u1 f k false) n + 1 = cN f n := by
  induction n with
  | zero => omega
  | succ n ih =>
    simp only [cN]
    by_cases h : k = n
    · subst h
      rw [cN_congr (g := f) (fun j hj => u1_ne (by omega)), u1_at, hf]; simp
    · have := ih (by omega); rw [u1_ne (show ¬ n = k by omega)]; omega
theorem u2_row {α : Type} (f : Nat → Nat → α) (i k : Nat) (v : α) : u2 f i k v i = u1 (f i) k v := by
  funext k'; simp [u2, u1]
theorem u2_other {α : Type} (f : Nat → Nat → α) {i i' : Nat} (k : Nat) (v : α) (h : i' ≠ i) : u2 f i k v i' = f i' := by
  funext k'; simp [u2, h]
theorem u1_same {α : Type} {f : Nat → α} {k : Nat} {v : α} (h : f k = v) : u1 f k v = f := by
  funext j; unfold u1; split
  · next e => rw [e, h]
  · rfl
theorem u2_same {α : Type} {f : Nat → Nat → α} {i k : Nat} {v : α} (h : f i k = v) : u2 f i k v = f := by
  funext a b; unfold u2; split
  · next e => rw [e.1, e.2, h]
  · rfl
-- the stores
abbrev Sto : Type := (Nat → Nat → Bool) × (Nat → Nat → Bool) × (Nat → Nat → Nat) × (Nat → Nat → Nat) × (Nat → Nat → Nat) × (Nat → Nat → Nat → Nat) × (Nat → Nat) × (Nat → Nat) × (Nat → Nat)
abbrev Sto.cp (x : Sto) : Nat → Nat → Bool := x.1
abbrev Sto.vb (x : Sto) : Nat → Nat → Bool := x.2.1
abbrev Sto.hp (x : Sto) : Nat → Nat → Nat := x.2.2.1
abbrev Sto.nw (x : Sto) : Nat → Nat → Nat := x.2.2.2.1
abbrev Sto.kn (x : Sto) : Nat → Nat → Nat := x.2.2.2.2.1
abbrev Sto.bt (x : Sto) : Nat → Nat → Nat → Nat := x.2.2.2.2.2.1
abbrev Sto.held (x : Sto) : Nat → Nat := x.2.2.2.2.2.2.1
abbrev Sto.ea (x : Sto) : Nat → Nat := x.2.2.2.2.2.2.2.1
abbrev Sto.rf (x : Sto) : Nat → Nat := x.2.2.2.2.2.2.2.2
abbrev mkSto (cp : Nat → Nat → Bool) (vb : Nat → Nat → Bool) (hp : Nat → Nat → Nat) (nw : Nat → Nat → Nat) (kn : Nat → Nat → Nat) (bt : Nat → Nat → Nat → Nat) (held : Nat → Nat) (ea : Nat → Nat) (rf : Nat → Nat) : Sto := (cp, vb, hp, nw, kn, bt, held, ea, rf)
def capa (i : Nat) : Nat := if i < 8 then 24 else 10
def bytI (x : Int64) (j : Nat) : Int32 := ((mm_lushr x (nI (8 * j))).toInt32) &&& 255
def RS (s : Mem) (sz : Nat → Nat) (S : Sto) : Prop := (∀ i, i < 12 → s.1 7 i 0 = nI (capa i)) ∧ (∀ i, i < 12 → s.1 7 i 5 = nI (cN (S.cp i) 64)) ∧ (∀ i, i < 12 → s.1 7 i 6 = nI (S.held i)) ∧ (∀ i, i < 12 → s.1 7 i 7 = nI (S.ea i)) ∧ (∀ i, i < 12 → s.1 7 i 8 = nI (S.rf i)) ∧ (∀ i k, i < 12 → k < 64 → s.1 8 i k = if S.cp i k then nI (S.hp i k) else mone) ∧ (∀ i k, i < 12 → k < 64 → s.1 9 i k = nI (S.nw i k)) ∧ (∀ i l, i < 12 → l < 16 → s.1 11 i l = nI (S.kn i l)) ∧ (∀ i l j, i < 12 → l < 16 → j < sz l → S.vb i (4 * l + j / 8) = true → bytI (s.2 10 i (4 * l + j / 8)) (j % 8) = nI (S.bt i l j)) ∧ (∀ i k, S.hp i k < 1000000) ∧ (∀ i k, S.nw i k < 1000000) ∧ (∀ i k, S.cp i k = true → S.vb i k = true)
theorem RS.cap {s : Mem} {sz : Nat → Nat} {S : Sto} (h : RS s sz S) : ∀ i, i < 12 → s.1 7 i 0 = nI (capa i) := h.1
theorem RS.cop {s : Mem} {sz : Nat → Nat} {S : Sto} (h : RS s sz S) : ∀ i, i < 12 → s.1 7 i 5 = nI (cN (S.cp i) 64) := h.2.1
theorem RS.hel {s : Mem} {sz : Nat → Nat} {S : Sto} (h : RS s sz S) : ∀ i, i < 12 → s.1 7 i 6 = nI (S.held i) := h.2.2.1
theorem RS.exl {s : Mem} {sz : Nat → Nat} {S : Sto} (h : RS s sz S) : ∀ i, i < 12 → s.1 7 i 7 = nI (S.ea i) := h.2.2.2.1
theorem RS.ref {s : Mem} {sz : Nat → Nat} {S : Sto} (h : RS s sz S) : ∀ i, i < 12 → s.1 7 i 8 = nI (S.rf i) := h.2.2.2.2.1
theorem RS.hop {s : Mem} {sz : Nat → Nat} {S : Sto} (h : RS s sz S) : ∀ i k, i < 12 → k < 64 → s.1 8 i k = if S.cp i k then nI (S.hp i k) else mone := h.2.2.2.2.2.1
theorem RS.new {s : Mem} {sz : Nat → Nat} {S : Sto} (h : RS s sz S) : ∀ i k, i < 12 → k < 64 → s.1 9 i k = nI (S.nw i k) := h.2.2.2.2.2.2.1
theorem RS.kno {s : Mem} {sz : Nat → Nat} {S : Sto} (h : RS s sz S) : ∀ i l, i < 12 → l < 16 → s.1 11 i l = nI (S.kn i l) := h.2.2.2.2.2.2.2.1
theorem RS.byt {s : Mem} {sz : Nat → Nat} {S : Sto} (h : RS s sz S) : ∀ i l j, i < 12 → l < 16 → j < sz l → S.vb i (4 * l + j / 8) = true → bytI (s.2 10 i (4 * l + j / 8)) (j % 8) = nI (S.bt i l j) := h.2.2.2.2.2.2.2.2.1
theorem RS.hlt {s : Mem} {sz : Nat → Nat} {S : Sto} (h : RS s sz S) : ∀ i k, S.hp i k < 1000000 := h.2.2.2.2.2.2.2.2.2.1
theorem RS.nlt {s : Mem} {sz : Nat → Nat} {S : Sto} (h : RS s sz S) : ∀ i k, S.nw i k < 1000000 := h.2.2.2.2.2.2.2.2.2.2.1
theorem RS.vcp {s : Mem} {sz : Nat → Nat} {S : Sto} (h : RS s sz S) : ∀ i k, S.cp i k = true → S.vb i k = true := h.2.2.2.2.2.2.2.2.2.2.2
def FrS (s s' : Mem) : Prop := ∀ F, (F < 7 ∨ 11 < F) → s'.1 F = s.1 F ∧ s'.2 F = s.2 F
theorem wI_k {s : Mem} {F i k F' i' k' : Nat} {v : Int32} (h : k' ≠ k) : (mm_wI s F i k v).1 F' i' k' = s.1 F' i' k' := if_neg fun h9 => h h9.2.2
theorem FrS.rf {s : Mem} : FrS s s := fun _ _ => ⟨rfl, rfl⟩
theorem FrS.tr {a b c : Mem} (h : FrS a b) (g : FrS b c) : FrS a c := fun F hF => ⟨(g F hF).1.trans (h F hF).1, (g F hF).2.trans (h F hF).2⟩
theorem FrS.wI {s : Mem} {F i k : Nat} {v : Int32} (h : 7 ≤ F ∧ F ≤ 11) : FrS s (mm_wI s F i k v) := fun F' hF => ⟨wI_ne (by omega), rfl⟩
theorem FrS.wJ {s : Mem} {F i k : Nat} {v : Int64} (h : 7 ≤ F ∧ F ≤ 11) : FrS s (mm_wJ s F i k v) := fun F' hF => ⟨rfl, wJ_ne (by omega)⟩
section
variable {s : Mem} {sz : Nat → Nat} {S : Sto} {i k l : Nat}
theorem S_room (h : RS s sz S) (hi : i < 12) (hc : cN (S.cp i) 64 ≤ capa i) : f_S_room i s = mm_ri (nI (capa i - cN (S.cp i) 64)) s := by
  unfold f_S_room mm_gf
  show mm_ri (s.1 7 i 0 - s.1 7 i 5) s = _
  rw [h.cap i hi, h.cop i hi, qI_sub hc]
theorem S_has (h : RS s sz S) (hi : i < 12) (hk : k < 64) : f_S_has i (nI k) s = mm_ri (bI (S.cp i k)) s := by
  unfold f_S_has
  have := h.hlt i k
  rw [ld_ok hk (by omega), h.hop i k hi hk]
  cases S.cp i k with
  | true => simp only [if_true]; rw [if_neg (by show ¬ (nI _ = mone); rw [qI_ne_m (by omega)]; exact id)]; rfl
  | false => rfl
def oFree (S : Sto) (i k : Nat) : Sto := (mkSto (u2 S.cp i k false) S.vb S.hp S.nw S.kn S.bt S.held S.ea S.rf)
theorem S_free (h : RS s sz S) (hi : i < 12) (hk : k < 64) : ∃ s', f_S_free i (nI k) s = mm_rv s' ∧ RS s' sz (oFree S i k) ∧ FrS s s' := by
  unfold f_S_free
  rw [S_has h hi hk, cI_ok]
  cases hc : S.cp i k with
  | false =>
    refine ⟨s, rfl, ?_, FrS.rf⟩
    have : oFree S i k = S := by unfold oFree; rw [u2_same hc]
    rw [this]; exact h
  | true =>
    rw [if_neg (by decide), st_ok hk (by omega)]
    unfold mm_gf mm_pf
    refine ⟨_, rfl, ?_, (FrS.wI (by omega)).tr (FrS.wI (by omega))⟩
    have hcn := cN_dn (f := S.cp i) hk hc
    have hcl := cN_le (S.cp i) 64
    refine ⟨fun i' hi' => (wI_k (by decide)).trans (h.cap i' hi'), fun i' hi' => ?_, fun i' hi' => (wI_k (by decide)).trans (h.hel i' hi'), fun i' hi' => (wI_k (by decide)).trans (h.exl i' hi'), fun i' hi' => (wI_k (by decide)).trans (h.ref i' hi'), fun i' k' hi' hk' => ?_, h.new, h.kno, h.byt, h.hlt, h.nlt, fun i' k' hc' => ?_⟩
    · rw [wI_eq, wI_ne (by decide)]
      by_cases e : i' = i
      · subst e
        rw [u2_at, h.cop _ hi]
        show _ = nI (cN (u2 S.cp i' k false i') 64)
        rw [u2_row, show (1 : Int32) = nI 1 from rfl, qI_sub (by omega)]
        congr 1; omega
      · rw [u2_ne (by omega), h.cop _ hi']
        show _ = nI (cN (u2 S.cp i k false i') 64)
        rw [u2_other _ _ _ e]
    · rw [wI_ne (by decide), wI_eq]
      show _ = if u2 S.cp i k false i' k' then _ else _
      by_cases e : i' = i ∧ k' = k
      · rw [e.1, e.2, u2_at, u2_at]; rfl
      · rw [u2_ne e, u2_ne e]; exact h.hop _ _ hi' hk'
    · have h9 : u2 S.cp i k false i' k' = true := hc'
      by_cases e : i' = i ∧ k' = k
      · rw [e.1, e.2, u2_at] at h9; cases h9
      · rw [u2_ne e] at h9; exact h.vcp _ _ h9
end

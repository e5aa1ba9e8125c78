-- the start
def A0 : Ab := mkAb 0 (fun _ => []) 0 (mkSto (fun _ _ => false) (fun _ _ => false) (fun _ _ => 0) (fun _ _ => 0) (fun _ _ => 0) (fun _ _ _ => 0) (fun _ => 0) (fun _ => 0) (fun _ => 0)) (mkLts 0 (fun _ => 0) (fun _ => 0) (fun _ => 0) (fun _ => 0) (fun _ => 0) (fun _ => 0) (fun _ => 0) (fun _ => 0) (fun _ => false)) (mkBxs (fun _ => none) (fun _ => []) (fun _ _ _ => false) (fun _ => false) (fun _ _ => 0)) []
theorem WF_0 : WF A0 0 := by
  have hc : ∀ n, cN (fun _ => false) n = 0 := fun n => cN_false (fun _ => rfl) n
  refine ⟨Nat.le_refl _, by decide, fun t _ => ⟨fun x hx => absurd hx (List.not_mem_nil), fun x hx => absurd hx (List.not_mem_nil), Nat.zero_le _⟩, fun _ => Nat.le_refl _, ⟨⟨Nat.zero_le _, fun l hl => absurd hl (Nat.not_lt_zero _), fun _ => Nat.zero_le _, fun l hl => absurd hl (Nat.not_lt_zero _), fun l hl => absurd hl (Nat.not_lt_zero _), fun l hl => absurd hl (Nat.not_lt_zero _), fun l hl => absurd hl (Nat.not_lt_zero _)⟩, ⟨fun _ => Nat.zero_le _, fun b x hx => absurd hx (List.not_mem_nil), (fun b q hq => absurd (show (none : Option Nat) = some q from hq) (fun h => nomatch h))⟩, (fun l hl => absurd (show false = true from hl) (by decide)), (fun l hl => absurd (show false = true from hl) (by decide))⟩, ⟨fun i _ => ?_, (fun i k h => absurd (show false = true from h) (by decide)), (fun i k h => absurd (show false = true from h) (by decide)), (fun i k h => absurd (show false = true from h) (by decide)), fun _ _ _ => rfl, fun _ _ => Nat.zero_le _, fun _ _ _ => rfl, fun _ _ _ => rfl, (fun i k h => absurd (show false = true from h) (by decide)), fun _ _ => Nat.zero_le _, fun _ _ => Nat.zero_le _⟩, fun l hl => absurd hl (Nat.not_lt_zero _), Nat.zero_le _⟩
  show cN (fun _ => false) 64 ≤ _
  rw [hc]; exact Nat.zero_le _
theorem vz7 : ∀ i, i < 12 → VZ 7 i 0 = nI (capa i) ∧ VZ 7 i 5 = 0 ∧ VZ 7 i 6 = 0 ∧ VZ 7 i 7 = 0 ∧ VZ 7 i 8 = 0 := by decide +kernel
theorem vz8 : ∀ i, i < 12 → ∀ k, k < 64 → VZ 8 i k = -1 := by decide +kernel
theorem vz1 : ∀ t, t < 8 → VZ 1 t 3 = 0 := by decide +kernel
theorem vz16 : ∀ b, b < 24 → VZ 16 b 1 = 0 ∧ VZ 16 b 2 = 0 ∧ VZ 16 b 3 = -1 ∧ VZ 53 0 b = -1 := by decide +kernel
theorem vz19 : ∀ l, l < 16 → VZ 19 l 8 = 0 ∧ VZ 19 l 9 = 0 := by decide +kernel
theorem vzf : ∀ F, F < 72 → ∀ i, i < cnt F → ∀ k ∈ rfP F, VZ F i k ≠ 0 := by decide +kernel
theorem RX_0 {s : Mem} {N : Nat} (h : Iv N VZ s) : RX s A0 := by
  have w : ∀ F i k, F ≠ 99 → s.1 F i k = VZ F i k := h.w
  have hc : ∀ n, cN (fun _ => false) n = 0 := fun n => cN_false (fun _ => rfl) n
  refine ⟨w 0 0 0 (by decide), w 0 0 3 (by decide), w 0 0 9 (by decide), fun t ht => ⟨[], ⟨(w 1 t 3 (by decide)).trans (vz1 t ht), fun j x hx => by simp at hx⟩, List.Pairwise.nil, List.Perm.refl _⟩, ⟨fun i hi => (w 7 i 0 (by decide)).trans (vz7 i hi).1, fun i hi => ?_, fun i hi => (w 7 i 6 (by decide)).trans (vz7 i hi).2.2.1, fun i hi => (w 7 i 7 (by decide)).trans (vz7 i hi).2.2.2.1, fun i hi => (w 7 i 8 (by decide)).trans (vz7 i hi).2.2.2.2, fun i k hi hk => (w 8 i k (by decide)).trans (vz8 i hi k hk), fun i k _ _ => w 9 i k (by decide), fun i l _ _ => w 11 i l (by decide), fun i l j _ _ h3 _ => absurd h3 (Nat.not_lt_zero _), fun _ _ => (show (0 : Nat) < 1000000 by decide), fun _ _ => (show (0 : Nat) < 1000000 by decide), (fun i k h => absurd (show false = true from h) (by decide))⟩,
    ⟨w 0 0 7 (by decide), fun l hl => absurd hl (Nat.not_lt_zero _), fun l hl => absurd hl (Nat.not_lt_zero _), fun l hl => absurd hl (Nat.not_lt_zero _), fun l hl => absurd hl (Nat.not_lt_zero _), fun l hl => absurd hl (Nat.not_lt_zero _), fun l hl => absurd hl (Nat.not_lt_zero _), fun l hl => absurd hl (Nat.not_lt_zero _), fun l hl => absurd hl (Nat.not_lt_zero _), fun l hl => ?_, fun l hl => (w 19 l 9 (by decide)).trans (vz19 l hl).2⟩, ⟨fun g t _ _ => w 15 g t (by decide), fun b hb => (w 16 b 1 (by decide)).trans (vz16 b hb).1, fun b hb => (w 16 b 2 (by decide)).trans (vz16 b hb).2.1, fun b hb => (w 16 b 3 (by decide)).trans (vz16 b hb).2.2.1, fun b j x _ hx => ?_, fun l j _ h2 _ => absurd h2 (Nat.not_lt_zero _)⟩, fun j hj => ?_⟩
  · rw [(w 7 i 5 (by decide)).trans (vz7 i hi).2.1]
    show 0 = nI (cN (fun _ => false) 64)
    rw [hc]; rfl
  · rw [(w 19 l 8 (by decide)).trans (vz19 l hl).1]
    have hd : decide (l < A0.L.n ∧ A0.L.ps l + 7200 ≤ A0.now) = false := decide_eq_false (fun h => absurd h.1 (Nat.not_lt_zero _))
    rw [hd]; rfl
  · have hx' : ([] : List Nat)[j]? = some x := hx
    simp at hx'
  · rw [h.z]
    show bytI 0 (j % 8) = nI (([] : List Nat).getD j 0)
    rw [getD_ge (Nat.zero_le _)]
    have : j % 8 < 8 := by omega
    generalize j % 8 = r at this
    match r, this with
    | 0, _ => decide
    | 1, _ => decide
    | 2, _ => decide
    | 3, _ => decide
    | 4, _ => decide
    | 5, _ => decide
    | 6, _ => decide
    | 7, _ => decide
theorem RM_0 {s : Mem} {N : Nat} (h : Iv N VZ s) : RM s A0 := by
  have w : ∀ F i k, F ≠ 99 → s.1 F i k = VZ F i k := h.w
  refine ⟨w 30 0 5 (by decide), w 30 0 4 (by decide), w 30 0 30 (by decide), fun t ht => ⟨w 34 0 t (by decide), fun j x hx => ?_⟩, ⟨fun i _ => w 35 0 i (by decide), fun i k _ _ => w 46 0 (64 * i + k) (by decide), (fun i k _ _ h => absurd (show false = true from h) (by decide)), fun i k _ _ => w 48 0 (64 * i + k) (by decide), fun i l j _ _ h3 _ => absurd h3 (Nat.not_lt_zero _), fun i l _ _ => w 50 0 (16 * i + l) (by decide), fun i _ => w 51 0 i (by decide), fun i _ => w 52 0 i (by decide), fun _ _ => (show (0 : Nat) < 1000000 by decide), fun _ _ => (show (0 : Nat) < 1000000 by decide), (fun i k h => absurd (show false = true from h) (by decide)), fun _ => Nat.zero_le _⟩,
    ⟨w 30 0 7 (by decide), fun l hl => absurd hl (Nat.not_lt_zero _), fun l hl => absurd hl (Nat.not_lt_zero _), fun l hl => absurd hl (Nat.not_lt_zero _), fun l hl => absurd hl (Nat.not_lt_zero _), fun l hl => absurd hl (Nat.not_lt_zero _), fun l hl => absurd hl (Nat.not_lt_zero _), fun l hl => absurd hl (Nat.not_lt_zero _), fun l hl => absurd hl (Nat.not_lt_zero _), fun l _ => w 44 0 l (by decide)⟩, ⟨fun l j _ h2 _ => absurd h2 (Nat.not_lt_zero _), fun b hb => (w 53 0 b (by decide)).trans (vz16 b hb).2.2.2, fun b _ => w 54 0 b (by decide), fun b j x _ hx => ?_, fun g t b _ _ _ => w 56 0 (6 * g + 3 * t + b) (by decide)⟩, fun j b hb => ?_⟩
  · have hx' : ([] : List Hlt)[j]? = some x := hx
    simp at hx'
  · have hx' : ([] : List Nat)[j]? = some x := hx
    simp at hx'
  · have hx' : ([] : List Nat)[j]? = some b := hb
    simp at hx'
theorem pre_ok : ∃ s1, f_W_pre mm_rv z0 = mm_rv s1 ∧ Iv 247 VZ s1 := by
  have t : tb_ord[0]? = some (0, 0) ∧ tb_ord[214]? = some (30, 0) ∧ tb_ord[246]? = some (70, 0) := by decide +kernel
  have h0 : Iv 0 V0 z0 := ⟨by decide, by decide, fun _ _ _ _ => rfl, fun _ _ _ => rfl⟩
  obtain ⟨s0, e0, g0⟩ := nw1 (kB := 0) (kE := 247) (F := 0) (i := 0) h0 ⟨by decide, by decide, t.1⟩ (by decide) (fun _ => rfl)
  obtain ⟨s1, e1, g1⟩ := X_init_ok g0
  obtain ⟨s2, e2, g2⟩ := nw1 (kB := 0) (kE := 247) (F := 30) (i := 0) g1 ⟨by decide, by decide, t.2.1⟩ (by decide) (fun _ => rfl)
  obtain ⟨s3, e3, g3⟩ := M_init_ok g2
  obtain ⟨s4, e4, g4⟩ := nw1 (kB := 0) (kE := 247) (F := 70) (i := 0) g3 ⟨by decide, by decide, t.2.2⟩ (by decide) (fun _ => rfl)
  refine ⟨s4, ?_, g4⟩
  unfold f_W_pre
  rw [e0, e1, bcV_ok g0 g1 ⟨by decide, by decide, by decide⟩, e2, e3, bcV_ok g2 g3 ⟨by decide, by decide, by decide⟩, e4]

-- the offers in their order
def pcsF (f : Nat → Bool) (l : Nat) : Nat → Nat → List Nat
  | 0, _ => []
  | m + 1, j => (if f (4 * l + j) then [4 * l + j] else []) ++ pcsF f l m (j + 1)
def ltsF (L : Lts) (f : Nat → Bool) (q : Nat) : Nat → Nat → List Nat
  | 0, _ => []
  | m + 1, l => (if L.srt l = q then pcsF f l 4 0 else []) ++ ltsF L f q m (l + 1)
def srtF (L : Lts) (f : Nat → Bool) : Nat → Nat → List Nat
  | 0, _ => []
  | m + 1, q => ltsF L f q L.n 0 ++ srtF L f m (q + 1)
def ofs (L : Lts) (f : Nat → Bool) : List Nat := srtF L f 3 0
theorem pcs_mem {f : Nat → Bool} {l p : Nat} : ∀ m j, p ∈ pcsF f l m j → f p = true ∧ 4 * l + j ≤ p ∧ p < 4 * l + j + m := by
  intro m
  induction m with
  | zero => intro j h; exact absurd h (List.not_mem_nil)
  | succ m ih =>
    intro j h
    unfold pcsF at h
    rcases List.mem_append.mp h with h | h
    · split at h
      · next hf =>
        rw [List.mem_singleton.mp h]; exact ⟨hf, by omega, by omega⟩
      · exact absurd h (List.not_mem_nil)
    · obtain ⟨h1, h2, h3⟩ := ih (j + 1) h
      exact ⟨h1, by omega, by omega⟩
theorem pcs_nd {f : Nat → Bool} {l : Nat} : ∀ m j, (pcsF f l m j).Nodup := by
  intro m
  induction m with
  | zero => intro j; exact List.nodup_nil
  | succ m ih =>
    intro j
    unfold pcsF
    refine List.nodup_append.mpr ⟨?_, ih (j + 1), fun a ha b hb => ?_⟩
    · split
      · exact List.nodup_cons.mpr ⟨List.not_mem_nil, List.nodup_nil⟩
      · exact List.nodup_nil
    · have := (pcs_mem m (j + 1) hb).2.1
      split at ha
      · rw [List.mem_singleton.mp ha]; omega
      · exact absurd ha (List.not_mem_nil)
theorem lts_mem {L : Lts} {f : Nat → Bool} {q p : Nat} : ∀ m l, p ∈ ltsF L f q m l → f p = true ∧ L.srt (p / 4) = q ∧ l ≤ p / 4 ∧ p / 4 < l + m := by
  intro m
  induction m with
  | zero => intro j h; exact absurd h (List.not_mem_nil)
  | succ m ih =>
    intro l h
    unfold ltsF at h
    rcases List.mem_append.mp h with h | h
    · split at h
      · next hf =>
        obtain ⟨h1, h2, h3⟩ := pcs_mem 4 0 h
        have : p / 4 = l := by omega
        rw [this]; exact ⟨h1, hf, Nat.le_refl _, by omega⟩
      · exact absurd h (List.not_mem_nil)
    · obtain ⟨h1, h2, h3, h4⟩ := ih (l + 1) h
      exact ⟨h1, h2, by omega, by omega⟩
theorem lts_nd {L : Lts} {f : Nat → Bool} {q : Nat} : ∀ m l, (ltsF L f q m l).Nodup := by
  intro m
  induction m with
  | zero => intro j; exact List.nodup_nil
  | succ m ih =>
    intro l
    unfold ltsF
    refine List.nodup_append.mpr ⟨?_, ih (l + 1), fun a ha b hb => ?_⟩
    · split
      · exact pcs_nd 4 0
      · exact List.nodup_nil
    · have := (lts_mem m (l + 1) hb).2.2.1
      split at ha
      · have := pcs_mem 4 0 ha; omega
      · exact absurd ha (List.not_mem_nil)
theorem srt_mem {L : Lts} {f : Nat → Bool} {p : Nat} : ∀ m q, p ∈ srtF L f m q → f p = true ∧ q ≤ L.srt (p / 4) ∧ p / 4 < L.n := by
  intro m
  induction m with
  | zero => intro j h; exact absurd h (List.not_mem_nil)
  | succ m ih =>
    intro q h
    unfold srtF at h
    rcases List.mem_append.mp h with h | h
    · obtain ⟨h1, h2, h3, h4⟩ := lts_mem L.n 0 h
      exact ⟨h1, by omega, by omega⟩
    · obtain ⟨h1, h2, h3⟩ := ih (q + 1) h
      exact ⟨h1, by omega, h3⟩
theorem srt_nd {L : Lts} {f : Nat → Bool} : ∀ m q, (srtF L f m q).Nodup := by
  intro m
  induction m with
  | zero => intro j; exact List.nodup_nil
  | succ m ih =>
    intro q
    unfold srtF
    refine List.nodup_append.mpr ⟨lts_nd L.n 0, ih (q + 1), fun a ha b hb => ?_⟩
    have h1 := (lts_mem L.n 0 ha).2.1
    have h2 := (srt_mem m (q + 1) hb).2.1
    intro e; subst e; omega
theorem nd_len {N : Nat} : ∀ (xs : List Nat) (f : Nat → Bool), xs.Nodup → (∀ x ∈ xs, x < N ∧ f x = true) → xs.length ≤ cN f N := by
  intro xs
  induction xs with
  | nil => intro f _ _; exact Nat.zero_le _
  | cons x xs ih =>
    intro f hn h
    obtain ⟨h1, h2⟩ := h x (List.mem_cons_self)
    obtain ⟨n1, n2⟩ := List.nodup_cons.mp hn
    have h3 := cN_dn h1 h2
    have h4 := ih (u1 f x false) n2 (fun y hy => ⟨(h y (List.mem_cons_of_mem _ hy)).1, by
      rw [u1_ne (fun e => n1 (by rw [← e]; exact hy))]; exact (h y (List.mem_cons_of_mem _ hy)).2⟩)
    rw [List.length_cons]; omega
-- the class's lists of offers
def OfR (s : Mem) (i : Nat) (xs : List Nat) : Prop := (s.1 26 i 1 = nI xs.length) ∧ (∀ j x, xs[j]? = some x → s.1 27 i j = nI x)
theorem OfR.cnt {s : Mem} {i : Nat} {xs : List Nat} (h : OfR s i xs) : s.1 26 i 1 = nI xs.length := h.1
theorem OfR.row {s : Mem} {i : Nat} {xs : List Nat} (h : OfR s i xs) : ∀ j x, xs[j]? = some x → s.1 27 i j = nI x := h.2
def FrO (s s' : Mem) : Prop := ∀ F, (F ≠ 26 ∧ F ≠ 27) → s'.1 F = s.1 F ∧ s'.2 F = s.2 F
theorem FrO.rf {s : Mem} : FrO s s := fun _ _ => ⟨rfl, rfl⟩
theorem FrO.tr {a b c : Mem} (h : FrO a b) (g : FrO b c) : FrO a c := fun F hF => ⟨(g F hF).1.trans (h F hF).1, (g F hF).2.trans (h F hF).2⟩
theorem O_add {s : Mem} {i p : Nat} {xs : List Nat} (h : OfR s i xs) (hl : xs.length < 24) : ∃ s', f_O_add i (nI p) s = mm_rv s' ∧ OfR s' i (xs ++ [p]) ∧ (∀ i' ys, i' ≠ i → OfR s i' ys → OfR s' i' ys) ∧ FrO s s' := by
  unfold f_O_add
  rw [gf_ok, h.cnt, st_ok hl (by omega), gf_ok, wI_ne (by decide), h.cnt, pf_ok, show nI xs.length + 1 = nI (xs.length + 1) by simp only [qI_lit, qI_add]]
  refine ⟨mm_wI (mm_wI s 27 i xs.length (nI p)) 26 i 1 (nI (xs.length + 1)), rfl, ⟨by rw [wI_y, List.length_append]; rfl, fun j x hx => ?_⟩, fun i' ys hi hy => ⟨?_, fun j x hx => ?_⟩, fun F hF => ⟨(wI_ne hF.1).trans (wI_ne hF.2), rfl⟩⟩
  · rw [wI_ne (by decide)]
    by_cases e : j = xs.length
    · subst e
      rw [List.getElem?_append_right (Nat.le_refl _), Nat.sub_self] at hx
      injection hx with hx
      rw [wI_y, hx]
    · have hj : j < xs.length := by
        have := (List.getElem?_eq_some_iff.mp hx).1
        rw [List.length_append] at this
        have : j < xs.length + 1 := this
        omega
      rw [List.getElem?_append_left hj] at hx
      rw [wI_n (by omega)]; exact h.row j x hx
  · rw [wI_n (by omega), wI_ne (by decide)]; exact hy.cnt
  · rw [wI_ne (by decide), wI_n (by omega)]; exact hy.row j x hx
section
variable {sz : Nat → Nat} {S : Sto} {b k l : Nat} {f0 f1 : Nat → Bool} {oB oK : Bool}
theorem X_offP_lp (hb : b < 12) (hk : k < 12) (hl : l < 16) (h0 : ∀ j, j < 4 → f0 (4 * l + j) = (oB && S.cp b (4 * l + j))) (h1 : ∀ j, j < 4 → f1 (4 * l + j) = (oK && S.cp k (4 * l + j))) {kk : Mem → RR} : ∀ (m n j : Nat) (s : Mem) (xs ys : List Nat), j + m = 4 → m < n → RS s sz S → OfR s 0 xs → OfR s 1 ys → xs.length + (pcsF f0 l m j).length ≤ 24 → ys.length + (pcsF f1 l m j).length ≤ 24 →
    ∃ s', lp_X_offerPiecesOf_87 (nI l) (nI b) (nI k) (bI oB) (bI oK) kk n (nI (4 * l + j)) s = kk s' ∧ OfR s' 0 (xs ++ pcsF f0 l m j) ∧ OfR s' 1 (ys ++ pcsF f1 l m j) ∧ FrO s s' := by
  intro m
  induction m with
  | zero =>
    intro n j s xs ys hj hn hS hx hy _ _
    obtain ⟨n, rfl⟩ : ∃ n', n = n' + 1 := ⟨n - 1, by omega⟩
    unfold lp_X_offerPiecesOf_87 pcsF
    rw [show (nI l + 1) * 4 = nI ((l + 1) * 4) by simp only [qI_lit, qI_add, qI_mul], if_pos (by rw [qI_le (by omega) (by omega)]; omega), List.append_nil, List.append_nil]
    exact ⟨s, rfl, hx, hy, FrO.rf⟩
  | succ m ih =>
    intro n j s xs ys hj hn hS hx hy hlx hly
    obtain ⟨n, rfl⟩ : ∃ n', n = n' + 1 := ⟨n - 1, by omega⟩
    have e1 : nI (4 * l + j) + 1 = nI (4 * l + (j + 1)) := by simp only [qI_lit, qI_add]; congr 1
    have u0 : pcsF f0 l (m + 1) j = (if f0 (4 * l + j) then [4 * l + j] else []) ++ pcsF f0 l m (j + 1) := rfl
    have u1' : pcsF f1 l (m + 1) j = (if f1 (4 * l + j) then [4 * l + j] else []) ++ pcsF f1 l m (j + 1) := rfl
    rw [u0, List.length_append] at hlx
    rw [u1', List.length_append] at hly
    rw [u0, u1', ← List.append_assoc, ← List.append_assoc]
    -- the second offer
    have second : ∀ s1 xs', FrO s s1 → OfR s1 0 xs' → OfR s1 1 ys → xs'.length + (pcsF f0 l m (j + 1)).length ≤ 24 → ∃ s', (if bI oK = 0 then lp_X_offerPiecesOf_87 (nI l) (nI b) (nI k) (bI oB) (bI oK) kk n (nI (4 * l + (j + 1))) s1 else mm_al 12 (nI k) fun j135 => mm_cI (f_S_has j135 (nI (4 * l + j)) s1) fun v138 s138 => if v138 = 0 then lp_X_offerPiecesOf_87 (nI l) (nI b) (nI k) (bI oB) (bI oK) kk n (nI (4 * l + (j + 1))) s138 else mm_cV (f_O_add 1 (nI (4 * l + j)) s138) fun s150 => lp_X_offerPiecesOf_87 (nI l) (nI b) (nI k) (bI oB) (bI oK) kk n (nI (4 * l + (j + 1))) s150) = kk s' ∧ OfR s' 0 (xs' ++ pcsF f0 l m (j + 1)) ∧ OfR s' 1 ((ys ++ if f1 (4 * l + j) then [4 * l + j] else []) ++ pcsF f1 l m (j + 1)) ∧ FrO s s' := by
      intro s1 xs' f1' hx' hy' hl'
      have hS1 : RS s1 sz S := hS.fr (f1' 7 (by decide)).1 (f1' 8 (by decide)).1 (f1' 9 (by decide)).1 (f1' 10 (by decide)).2 (f1' 11 (by decide)).1
      have hno : f1 (4 * l + j) = false → ∃ s', lp_X_offerPiecesOf_87 (nI l) (nI b) (nI k) (bI oB) (bI oK) kk n (nI (4 * l + (j + 1))) s1 = kk s' ∧ OfR s' 0 (xs' ++ pcsF f0 l m (j + 1)) ∧ OfR s' 1 ((ys ++ if f1 (4 * l + j) then [4 * l + j] else []) ++ pcsF f1 l m (j + 1)) ∧ FrO s s' := by
        intro hf
        rw [hf] at hly ⊢
        obtain ⟨s2, e2, g1, g2, g3⟩ := ih n (j + 1) s1 xs' ys (by omega) (by omega) hS1 hx' hy' hl' (by simpa using hly)
        exact ⟨s2, e2, g1, by simpa using g2, f1'.tr g3⟩
      have hf := h1 j (by omega)
      cases hK : oK with
      | false =>
        rw [hK] at hf hno
        rw [if_pos (by decide)]; exact hno hf
      | true =>
        rw [hK] at hf hno
        rw [if_neg (by decide), al_ok hk (by omega), S_has hS1 hk (by omega), cI_ok]
        cases hc : S.cp k (4 * l + j) with
        | false =>
          rw [hc] at hf
          rw [if_pos (by decide)]; exact hno hf
        | true =>
          rw [hc] at hf
          have hf' : f1 (4 * l + j) = true := hf
          rw [hf'] at hly ⊢
          have hly' : ys.length + (1 + (pcsF f1 l m (j + 1)).length) ≤ 24 := hly
          obtain ⟨s2, e2, g1, g2, g3⟩ := O_add (p := 4 * l + j) hy' (by omega)
          rw [hK] at ih
          obtain ⟨s3, e3, k1, k2, k3⟩ := ih n (j + 1) s2 xs' (ys ++ [4 * l + j]) (by omega) (by omega) (hS1.fr (g3 7 (by decide)).1 (g3 8 (by decide)).1 (g3 9 (by decide)).1 (g3 10 (by decide)).2 (g3 11 (by decide)).1) (g2 0 xs' (by decide) hx') g1 hl' (by rw [List.length_append]; show ys.length + 1 + _ ≤ 24; omega)
          refine ⟨s3, ?_, k1, k2, f1'.tr (g3.tr k3)⟩
          rw [if_neg (by decide), e2, cV_ok]; exact e3
    unfold lp_X_offerPiecesOf_87
    rw [show (nI l + 1) * 4 = nI ((l + 1) * 4) by simp only [qI_lit, qI_add, qI_mul], if_neg (by rw [qI_le (by omega) (by omega)]; omega), jn_ok, e1]
    have hf := h0 j (by omega)
    cases hB : oB with
    | false =>
      rw [hB] at hf second
      have hf' : f0 (4 * l + j) = false := hf
      rw [hf'] at hlx ⊢
      rw [if_pos (by decide)]
      have hr := second s (xs ++ []) FrO.rf (by rw [List.append_nil]; exact hx) hy (by simpa using hlx)
      exact hr
    | true =>
      rw [hB] at hf second
      rw [if_neg (by decide), al_ok hb (by omega), S_has hS hb (by omega), cI_ok]
      cases hc : S.cp b (4 * l + j) with
      | false =>
        rw [hc] at hf
        have hf' : f0 (4 * l + j) = false := hf
        rw [hf'] at hlx ⊢
        rw [if_pos (by decide)]
        exact second s (xs ++ []) FrO.rf (by rw [List.append_nil]; exact hx) hy (by simpa using hlx)
      | true =>
        rw [hc] at hf
        have hf' : f0 (4 * l + j) = true := hf
        rw [hf'] at hlx ⊢
        have hlx' : xs.length + (1 + (pcsF f0 l m (j + 1)).length) ≤ 24 := hlx
        obtain ⟨s2, e2, g1, g2, g3⟩ := O_add (p := 4 * l + j) hx (by omega)
        rw [if_neg (by decide), e2, cV_ok]
        exact second s2 (xs ++ [4 * l + j]) g3 g1 (g2 1 ys (by decide) hy) (by rw [List.length_append]; show xs.length + 1 + _ ≤ 24; omega)
end

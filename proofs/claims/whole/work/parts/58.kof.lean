theorem tb_mem {c : Nat × Nat} (h : c ∈ tb_all) : c.1 < 72 ∧ c.2 < cnt c.1 := by
  obtain ⟨F, hF, h2⟩ := List.mem_flatMap.mp h
  obtain ⟨i, hi, rfl⟩ := List.mem_map.mp h2
  exact ⟨List.mem_range.mp hF, List.mem_range.mp hi⟩
theorem FL_of {K : KK} {D : va_G} {q : Mem} {H : Heap} (hF : Fl q) (hP : va_P D vwCl (FB K q) H) : va_P D vwCl (FL K q) H := by
  intro k z hz
  unfold FL at hz
  rw [List.getElem?_map] at hz
  obtain ⟨c, hc, rfl⟩ := Option.map_eq_some_iff.mp hz
  obtain ⟨h1, h2⟩ := tb_mem (List.mem_of_getElem? hc)
  exact cb_ct _ c.1 c.2 h2 (hF.2 c.1 h1 c.2 h2) (hP _ _ (FB_at (by rw [hF.1]; exact (tb_oi _ _ (tb_ok c.1 h1 c.2 h2)).2.2) h1 h2))
theorem FL_D {K : KK} {q : Mem} (hA : KA K) : va_D (AK K) (FL K q) := by
  have hx : ∀ (k : Nat) (z : Nat × va_E), (FL K q)[k]? = some z → ∃ c, tb_all[k]? = some c ∧ z.1 = aa K c.1 c.2 := by
    intro k z hz
    unfold FL at hz
    rw [List.getElem?_map] at hz
    obtain ⟨c, hc, rfl⟩ := Option.map_eq_some_iff.mp hz
    exact ⟨c, hc, rfl⟩
  refine ⟨fun i j p r hp hr he => ?_, fun k z hz => ?_⟩
  · obtain ⟨c, hc, e1⟩ := hx i p hp
    obtain ⟨d, hd, e2⟩ := hx j r hr
    obtain ⟨c1, c2⟩ := tb_mem (List.mem_of_getElem? hc)
    obtain ⟨d1, d2⟩ := tb_mem (List.mem_of_getElem? hd)
    have o1 := tb_ok c.1 c1 c.2 c2
    have o2 := tb_ok d.1 d1 d.2 d2
    have a1 := hA _ _ o1
    have a2 := hA _ _ o2
    have : tb_op c.1 c.2 = tb_op d.1 d.2 := by
      have h9 : aa K c.1 c.2 = aa K d.1 d.2 := e1.symm.trans (he.trans e2)
      simp only at a1 a2
      omega
    rw [this] at o1
    have hcd : (c.1, c.2) = (d.1, d.2) := Option.some.inj (o1.symm.trans o2)
    have hcd' : c = d := hcd
    subst hcd'
    exact (tb_inv _ _ hc).symm.trans (tb_inv _ _ hd)
  · obtain ⟨c, hc, e1⟩ := hx k z hz
    obtain ⟨c1, c2⟩ := tb_mem (List.mem_of_getElem? hc)
    exact ⟨c.1, c.2, c1, c2, e1⟩
set_option maxRecDepth 100000 in
theorem tb_n71 : ∀ c ∈ tb_ord, c.1 ≠ 71 := by decide +kernel
def lawK (b N : Nat) (D : va_G) (tc : Nat → ClassId) : KK := (N, D, tc, fun F i => if F = 71 then b else N + tb_op F i)
theorem lawK_KA {b N : Nat} {D : va_G} {tc : Nat → ClassId} : KA (lawK b N D tc) := by
  intro n c h
  have h1 := tb_n71 c (List.mem_of_getElem? h)
  have h2 := (tb_oi n c h).1
  show (if c.1 = 71 then b else N + tb_op c.1 c.2) = N + n
  rw [if_neg h1, h2]
theorem lawK_AK {b N : Nat} {D : va_G} {tc : Nat → ClassId} {a : Nat} (h : AK (lawK b N D tc) a) : N ≤ a := by
  obtain ⟨F, i, h1, h2, rfl⟩ := h
  show N ≤ (if F = 71 then b else N + tb_op F i)
  split
  · next h9 => subst h9; exact absurd h2 (Nat.not_lt_zero _)
  · omega
theorem Sta_of {A : Nat → Prop} {U : State} {args : Array Value} {n d : String} (h1 : (Cond.laysStatic Bundle.tN n d).before args U = true) (h2 : (Cond.isRef (.static Bundle.tN n d)).before args U = true) (hA : ∀ a, a < U.heap.size → ¬ A a) : Sta A U U.heap n d := by
  obtain ⟨c, k, i, f, a, cell, g1, g2, g3, g4, g5, g6, g7, g8, g9⟩ := Cond.laysStatic_spec h1
  obtain ⟨v, hv, hr⟩ := Cond.isRef_spec h2
  have hlt : a < U.heap.size := (Array.getElem?_eq_some_iff.mp g5).1
  refine ⟨c, k, i, f, a, cell, v, g1, g2, g3, g4, g9, g5, g6, g7, g8, ?_, ?_, hA a hlt⟩
  · simp [Term.eval, State.fieldNamed?, g2, g3, g4, g5, g6] at hv
    exact hv
  · simpa using hr
theorem tyK_p {s : State} {args : Array Value} {ty : FieldType} (h : (Cond.arrayClass ty).before args s = true) (hp : ∀ cA, va_RA s cA ty = (s.vm.findClass ("[" ++ ty.toString) = some cA)) : ∃ cA, ArrOfT s cA ty ∧ va_RA s cA ty := by
  obtain ⟨cA, kA, comp, h1, h2, h3⟩ := Cond.arrayClass_spec h
  exact ⟨cA, fun n z => ⟨(fun k h => by cases h), kA, h2, comp, h3⟩, by rw [hp]; exact h1⟩
theorem tyK_q {s : State} {C : String} (h : va_AO C s) : ∃ cA, ArrOfT s cA (.object C) ∧ va_RA s cA (.object C) := by
  obtain ⟨comp, cA, kA, h1, h2, h3, h4, h5⟩ := Cond.arrayOver_spec (show Cond.holds #[] s none s [] (Cond.arrayOver (.object C)) = true from h)
  exact ⟨cA, fun N z => ⟨(fun k h => by cases h), kA, h3, comp, h4⟩, kA, comp, h3, h4, h1, h5⟩
theorem pick8 {P : Nat → ClassId → Prop} (h : ∀ k, k < 8 → ∃ c, P k c) : ∃ f : Nat → ClassId, ∀ k, k < 8 → P k (f k) := by
  have h' : ∀ k, ∃ c, k < 8 → P k c := fun k => if hk : k < 8 then (h k hk).elim fun c hc => ⟨c, fun _ => hc⟩ else ⟨0, fun h9 => absurd h9 hk⟩
  exact ⟨fun k => Classical.choose (h' k), fun k hk => Classical.choose_spec (h' k) hk⟩
def tyF (k : Nat) : FieldType := match k with
  | 0 => .int | 1 => .long | 2 => .boolean | 3 => .object "VillageMail$Timetable" | 4 => .object "VillageMail$Store" | 5 => .object "VillageMail$Boxes" | 6 => .object "VillageMail$Box" | _ => .object "VillageMail$Letter"
theorem tyL_at {tc : Nat → ClassId} {k : Nat} {q : ClassId × FieldType} (h : (tyL tc)[k]? = some q) : k < 8 ∧ q = (tc k, tyF k) := by
  have hk : k < 8 := (List.getElem?_eq_some_iff.mp h).1
  refine ⟨hk, ?_⟩
  match k, hk with
  | 0, _ => exact (Option.some.inj h).symm
  | 1, _ => exact (Option.some.inj h).symm
  | 2, _ => exact (Option.some.inj h).symm
  | 3, _ => exact (Option.some.inj h).symm
  | 4, _ => exact (Option.some.inj h).symm
  | 5, _ => exact (Option.some.inj h).symm
  | 6, _ => exact (Option.some.inj h).symm
  | 7, _ => exact (Option.some.inj h).symm
theorem K_of {s : State} {args : Array Value} (hts : ∀ w ∈ wAll, w.before args s = true) (hin : ∀ (c : Nat) (q : vw_C), vwCl[c]? = some q → (∀ w ∈ u_ws q.1 q.2.1 q.2.2, w ∈ wAll) ∧ ∃ n, (Cond.instantiable q.1 n).before args s = true)
    (hp : (Cond.arrayClass .int).before args s = true ∧ (Cond.arrayClass .long).before args s = true ∧ (Cond.arrayClass .boolean).before args s = true) (hAO : AOs s) : ∃ (D : va_G) (tc : Nat → ClassId), va_K D vwCl (tyL tc) s := by
  have h1 : ∀ k, k < 8 → ∃ cA, ArrOfT s cA (tyF k) ∧ va_RA s cA (tyF k) := by
    intro k hk
    match k, hk with
    | 0, _ => exact tyK_p hp.1 fun _ => rfl
    | 1, _ => exact tyK_p hp.2.1 fun _ => rfl
    | 2, _ => exact tyK_p hp.2.2 fun _ => rfl
    | 3, _ => exact tyK_q (hAO _ (by decide))
    | 4, _ => exact tyK_q (hAO _ (by decide))
    | 5, _ => exact tyK_q (hAO _ (by decide))
    | 6, _ => exact tyK_q (hAO _ (by decide))
    | 7, _ => exact tyK_q (hAO _ (by decide))
  obtain ⟨tc, htc⟩ := pick8 h1
  have h2 : ∀ c : Nat, ∃ (cC : ClassId) (iS : Nat → Nat), ∀ q, vwCl[c]? = some q → u_Kn s q.1 q.2.1 q.2.2 cC iS := by
    intro c
    cases hc : vwCl[c]? with
    | none => exact ⟨0, fun _ => 0, fun q h => nomatch h⟩
    | some q =>
      obtain ⟨g1, n, g2⟩ := hin c q hc
      obtain ⟨cC, iS, g⟩ := u_known hts g1 g2
      exact ⟨cC, iS, fun q' h => by cases h; exact g⟩
  refine ⟨(fun c => Classical.choose (h2 c), fun c => Classical.choose (Classical.choose_spec (h2 c))), tc, fun c q hq => Classical.choose_spec (Classical.choose_spec (h2 c)) q hq, fun k q hq => ?_⟩
  obtain ⟨hk, rfl⟩ := tyL_at hq
  exact htc k hk
theorem vw_in : ∀ (c : Nat) (q : vw_C), vwCl[c]? = some q → (∀ w ∈ u_ws q.1 q.2.1 q.2.2, w ∈ wAll) ∧ ∃ n, Cond.instantiable q.1 n ∈ wAll := by
  intro c q h
  have hk : c < 9 := (List.getElem?_eq_some_iff.mp h).1
  match c, hk with
  | 0, _ => cases h; exact ⟨in_B, 4, wa_at (i := 106) (by decide +kernel) rfl⟩
  | 1, _ => cases h; exact ⟨in_C, 2, wa_at (i := 99) (by decide +kernel) rfl⟩
  | 2, _ => cases h; exact ⟨in_L, 11, wa_at (i := 138) (by decide +kernel) rfl⟩
  | 3, _ => cases h; exact ⟨in_O, 2, wa_at (i := 197) (by decide +kernel) rfl⟩
  | 4, _ => cases h; exact ⟨in_R, 3, wa_at (i := 179) (by decide +kernel) rfl⟩
  | 5, _ => cases h; exact ⟨in_S, 9, wa_at (i := 56) (by decide +kernel) rfl⟩
  | 6, _ => cases h; exact ⟨in_T, 4, wa_at (i := 29) (by decide +kernel) rfl⟩
  | 7, _ => cases h; exact ⟨in_X, 16, wa_at (i := 21) (by decide +kernel) rfl⟩
  | 8, _ => cases h; exact ⟨in_M, 38, wa_at (i := 728) (by decide +kernel) rfl⟩
theorem vw_ac : Cond.arrayClass .int ∈ wAll ∧ Cond.arrayClass .long ∈ wAll ∧ Cond.arrayClass .boolean ∈ wAll := ⟨wa_at (i := 52) (by decide +kernel) rfl, wa_at (i := 96) (by decide +kernel) rfl, wa_at (i := 195) (by decide +kernel) rfl⟩
theorem vw_ao : ∀ C ∈ aoL, Cond.arrayOver (.object C) ∈ lw_tbl := by
  intro C hC
  simp only [aoL, List.mem_cons, List.not_mem_nil, or_false] at hC
  rcases hC with rfl | rfl | rfl | rfl | rfl
  · exact List.mem_append_right _ (List.mem_of_getElem? (i := 53) (by decide +kernel))
  · exact List.mem_append_right _ (List.mem_of_getElem? (i := 55) (by decide +kernel))
  · exact List.mem_append_right _ (List.mem_of_getElem? (i := 98) (by decide +kernel))
  · exact List.mem_append_right _ (List.mem_of_getElem? (i := 105) (by decide +kernel))
  · exact List.mem_append_right _ (List.mem_of_getElem? (i := 137) (by decide +kernel))
theorem vw_ls : Cond.laysStatic Bundle.tN "UNASSIGNED_STACK" Bundle.steD ∈ lw_tbl ∧ Cond.laysStatic Bundle.tN "SUPPRESSED_SENTINEL" Bundle.listD ∈ lw_tbl := ⟨List.mem_append_right _ (List.mem_of_getElem? (i := 332) (by decide +kernel)), List.mem_append_right _ (List.mem_of_getElem? (i := 334) (by decide +kernel))⟩
theorem vw_nw : ∀ w ∈ xs_nw, w ∈ lw_tbl := by
  intro w hw
  simp only [xs_nw, List.mem_cons, List.not_mem_nil, or_false] at hw
  rcases hw with rfl | rfl | rfl | rfl | rfl | rfl | rfl
  · exact List.mem_append_right _ (List.mem_of_getElem? (i := 308) (by decide +kernel))
  · exact List.mem_append_right _ (List.mem_of_getElem? (i := 310) (by decide +kernel))
  · exact List.mem_append_right _ (List.mem_of_getElem? (i := 312) (by decide +kernel))
  · exact List.mem_append_right _ (List.mem_of_getElem? (i := 307) (by decide +kernel))
  · exact List.mem_append_right _ (List.mem_of_getElem? (i := 371) (by decide +kernel))
  · exact List.mem_append_right _ (List.mem_of_getElem? (i := 667) (by decide +kernel))
  · exact List.mem_append_right _ (List.mem_of_getElem? (i := 634) (by decide +kernel))

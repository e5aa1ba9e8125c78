section VMem
variable {K : KK} {Γ : Cx} {cc : ByteArray} {own : String} {nL fr lo n : Nat} {σ : Mem} {pc : Nat} {L : List (Nat × Value)} {S : List Value} {fin : Oc × Mem}
theorem FL_at {F i : Nat} (hF : F < 72) (hi : i < cnt F) : (FL K σ)[tb_pos F i]? = some (aa K F i, ct K σ F i) := by
  unfold FL
  rw [List.getElem?_map, tb_at F hF i hi]
  rfl
theorem FL_set {σ' : Mem} {F i : Nat} {e : va_E} (hF : F < 72) (hi : i < cnt F) (ho : ∀ F' i', ¬ (F' = F ∧ i' = i) → ct K σ' F' i' = ct K σ F' i') (hs : ct K σ' F i = e) :
    (FL K σ).set (tb_pos F i) (aa K F i, e) = FL K σ' := by
  have hat := tb_at F hF i hi
  have hlt : tb_pos F i < tb_all.length := (List.getElem?_eq_some_iff.mp hat).1
  apply List.ext_getElem?
  intro j
  unfold FL
  rw [List.getElem?_set, List.getElem?_map, List.length_map]
  by_cases hj : tb_pos F i = j
  · subst hj
    rw [if_pos rfl, if_pos hlt, List.getElem?_map, hat]
    show _ = some (aa K F i, ct K σ' F i)
    rw [hs]
  · rw [if_neg hj, List.getElem?_map]
    cases hc : tb_all[j]? with
    | none => rfl
    | some q =>
      show some (aa K q.1 q.2, ct K σ q.1 q.2) = some (aa K q.1 q.2, ct K σ' q.1 q.2)
      rw [ho q.1 q.2 (fun hh => hj (by
        have := tb_inv j q hc
        rw [hh.1, hh.2] at this
        exact this))]
theorem ct_upI (σ : Mem) (F i k : Nat) (v : Int32) : ∀ F' i', ¬ (F' = F ∧ i' = i) → ct K (mm_wI σ F i k v) F' i' = ct K σ F' i' := by
  intro F' i' h
  have : (mm_wI σ F i k v).1 F' i' = σ.1 F' i' := by
    funext k'
    show (if F' = F ∧ i' = i ∧ k' = k then v else σ.1 F' i' k') = _
    exact if_neg (fun q => h ⟨q.1, q.2.1⟩)
  show ctR K F' i' ((mm_wI σ F i k v).1 F' i') (σ.2 F' i') = ctR K F' i' (σ.1 F' i') (σ.2 F' i')
  rw [this]
theorem ct_upI' (σ : Mem) (F i k : Nat) (v : Int32) : ct K (mm_wI σ F i k v) F i = ctR K F i (upd (σ.1 F i) k v) (σ.2 F i) := by
  have : (mm_wI σ F i k v).1 F i = upd (σ.1 F i) k v := by
    funext k'
    show (if F = F ∧ i = i ∧ k' = k then v else σ.1 F i k') = if k' = k then v else σ.1 F i k'
    by_cases hk : k' = k
    · rw [if_pos ⟨rfl, rfl, hk⟩, if_pos hk]
    · rw [if_neg (fun q => hk q.2.2), if_neg hk]
  show ctR K F i ((mm_wI σ F i k v).1 F i) (σ.2 F i) = _
  rw [this]
theorem ct_upJ (σ : Mem) (F i k : Nat) (v : Int64) : ∀ F' i', ¬ (F' = F ∧ i' = i) → ct K (mm_wJ σ F i k v) F' i' = ct K σ F' i' := by
  intro F' i' h
  have : (mm_wJ σ F i k v).2 F' i' = σ.2 F' i' := by
    funext k'
    show (if F' = F ∧ i' = i ∧ k' = k then v else σ.2 F' i' k') = _
    exact if_neg (fun q => h ⟨q.1, q.2.1⟩)
  show ctR K F' i' (σ.1 F' i') ((mm_wJ σ F i k v).2 F' i') = ctR K F' i' (σ.1 F' i') (σ.2 F' i')
  rw [this]
theorem ct_upJ' (σ : Mem) (F i k : Nat) (v : Int64) : ct K (mm_wJ σ F i k v) F i = ctR K F i (σ.1 F i) (vp_updL (σ.2 F i) k v) := by
  have : (mm_wJ σ F i k v).2 F i = vp_updL (σ.2 F i) k v := by
    funext k'
    show (if F = F ∧ i = i ∧ k' = k then v else σ.2 F i k') = if k' = k then v else σ.2 F i k'
    by_cases hk : k' = k
    · rw [if_pos ⟨rfl, rfl, hk⟩, if_pos hk]
    · rw [if_neg (fun q => hk q.2.2), if_neg hk]
  show ctR K F i (σ.1 F i) ((mm_wJ σ F i k v).2 F i) = _
  rw [this]
-- arrays
theorem ww_iaload {F i N : Nat} {x : Int32} {k : Int32 → RR} (G : Good K Γ cc own nL fr lo) (ar : ArI F N) (hi : i < cnt F) (d : decode cc pc = .ok (.iaload, 1)) (h : mm_ld σ F i N x k = some fin) (kk : ∀ v, k v = some fin → WW K Γ n σ (pc + 1) L (.int v :: S)) : WW K Γ n σ pc L (.int x :: .ref (aa K F i) :: S) := by
  by_cases hin : x < 0 ∨ N ≤ x.toNatClampNeg
  · rw [mm_ld, if_pos hin] at h; exact nomatch h
  rw [mm_ld, if_neg hin] at h
  have k := kk _ h
  obtain ⟨p, l, e, R, s, m, args, below, meth, c, Q, c0, s0⟩ := Γ
  obtain ⟨hx, hb, hml, hown, hts, hK, hR, hlk, hz, hst, hU, hN⟩ := G
  intro H locs ls hl hP hD hS
  exact va_iald hx hb hK hP (tb_pos F i) 0 ((FL_at ar.1 hi).trans (by show some (_, ctR K F i (σ.1 F i) (σ.2 F i)) = _; rw [ar.2])) rfl hin d (k H locs ls hl hP hD hS)
theorem ww_baload {F i N : Nat} {x : Int32} {k : Int32 → RR} (G : Good K Γ cc own nL fr lo) (ar : ArZ F N) (hi : i < cnt F) (d : decode cc pc = .ok (.baload, 1)) (h : mm_ld σ F i N x k = some fin) (kk : ∀ v, k v = some fin → WW K Γ n σ (pc + 1) L (.int v :: S)) : WW K Γ n σ pc L (.int x :: .ref (aa K F i) :: S) := by
  by_cases hin : x < 0 ∨ N ≤ x.toNatClampNeg
  · rw [mm_ld, if_pos hin] at h; exact nomatch h
  rw [mm_ld, if_neg hin] at h
  have k := kk _ h
  obtain ⟨p, l, e, R, s, m, args, below, meth, c, Q, c0, s0⟩ := Γ
  obtain ⟨hx, hb, hml, hown, hts, hK, hR, hlk, hz, hst, hU, hN⟩ := G
  intro H locs ls hl hP hD hS
  exact va_zald hx hb hK hP (tb_pos F i) 2 ((FL_at ar.1 hi).trans (by show some (_, ctR K F i (σ.1 F i) (σ.2 F i)) = _; rw [ar.2])) rfl hin d (k H locs ls hl hP hD hS)
theorem ww_laload {F i N : Nat} {x : Int32} {k : Int64 → RR} (G : Good K Γ cc own nL fr lo) (ar : ArJ F N) (hi : i < cnt F) (d : decode cc pc = .ok (.laload, 1)) (h : mm_ldj σ F i N x k = some fin) (kk : ∀ v, k v = some fin → WW K Γ n σ (pc + 1) L (.long v :: S)) : WW K Γ n σ pc L (.int x :: .ref (aa K F i) :: S) := by
  by_cases hin : x < 0 ∨ N ≤ x.toNatClampNeg
  · rw [mm_ldj, if_pos hin] at h; exact nomatch h
  rw [mm_ldj, if_neg hin] at h
  have k := kk _ h
  obtain ⟨p, l, e, R, s, m, args, below, meth, c, Q, c0, s0⟩ := Γ
  obtain ⟨hx, hb, hml, hown, hts, hK, hR, hlk, hz, hst, hU, hN⟩ := G
  intro H locs ls hl hP hD hS
  exact va_lald hx hb hK hP (tb_pos F i) 1 ((FL_at ar.1 hi).trans (by show some (_, ctR K F i (σ.1 F i) (σ.2 F i)) = _; rw [ar.2])) rfl hin d (k H locs ls hl hP hD hS)
theorem ww_aaload {F i N F2 t : Nat} {C : String} {g : Nat → Nat → Nat} {x : Int32} {k : Nat → RR} (G : Good K Γ cc own nL fr lo) (ar : ArA F N t C F2 g) (hi : i < cnt F) (d : decode cc pc = .ok (.aaload, 1)) (h : mm_al N x k = some fin) (kk : ∀ j, j < N → k j = some fin → WW K Γ n σ (pc + 1) L (.ref (aa K F2 (g i j)) :: S)) : WW K Γ n σ pc L (.int x :: .ref (aa K F i) :: S) := by
  by_cases hin : x < 0 ∨ N ≤ x.toNatClampNeg
  · rw [mm_al, if_pos hin] at h; exact nomatch h
  rw [mm_al, if_neg hin] at h
  have k := kk _ (Nat.lt_of_not_le fun q => hin (Or.inr q)) h
  obtain ⟨p, l, e, R, s, m, args, below, meth, c, Q, c0, s0⟩ := Γ
  obtain ⟨hx, hb, hml, hown, hts, hK, hR, hlk, hz, hst, hU, hN⟩ := G
  intro H locs ls hl hP hD hS
  exact va_aldq (f := fun j => some (aa K F2 (g i j))) hx hb hK hP (tb_pos F i) t ((FL_at ar.1 hi).trans (by show some (_, ctR K F i (σ.1 F i) (σ.2 F i)) = _; rw [ar.2.2])) (ar.2.1 K) hin d (k H locs ls hl hP hD hS)
theorem ww_iastore {F i N : Nat} {x v : Int32} {k : Mem → RR} (G : Good K Γ cc own nL fr lo) (ar : ArI F N) (hi : i < cnt F) (d : decode cc pc = .ok (.iastore, 1)) (h : mm_st σ F i N x v k = some fin) (kk : ∀ s, k s = some fin → WW K Γ n s (pc + 1) L S) : WW K Γ n σ pc L (.int v :: .int x :: .ref (aa K F i) :: S) := by
  by_cases hin : x < 0 ∨ N ≤ x.toNatClampNeg
  · rw [mm_st, if_pos hin] at h; exact nomatch h
  rw [mm_st, if_neg hin] at h
  have k := kk _ h
  obtain ⟨p, l, e, R, s, m, args, below, meth, c, Q, c0, s0⟩ := Γ
  obtain ⟨hx, hb, hml, hown, hts, hK, hR, hlk, hz, hst, hU, hN⟩ := G
  intro H locs ls hl hP hD hS
  refine va_iast hx hb hK hP hD hS (tb_pos F i) 0 ((FL_at ar.1 hi).trans (by show some (_, ctR K F i (σ.1 F i) (σ.2 F i)) = _; rw [ar.2])) rfl hin d (fun H1 locs1 hP1 hD1 hS1 => ?_)
  have e1 := FL_set (K := K) (σ' := mm_wI σ F i x.toNatClampNeg v) ar.1 hi (ct_upI σ F i _ v) ((ct_upI' σ F i _ v).trans (ar.2 K i _ _))
  rw [e1] at hP1 hD1
  exact k H1 locs1 ls hl hP1 hD1 hS1
theorem ww_bastore {F i N : Nat} {x v : Int32} {k : Mem → RR} (G : Good K Γ cc own nL fr lo) (ar : ArZ F N) (hi : i < cnt F) (d : decode cc pc = .ok (.bastore, 1)) (h : mm_sz σ F i N x v k = some fin) (kk : ∀ s, k s = some fin → WW K Γ n s (pc + 1) L S) : WW K Γ n σ pc L (.int v :: .int x :: .ref (aa K F i) :: S) := by
  by_cases hin : x < 0 ∨ N ≤ x.toNatClampNeg
  · rw [mm_sz, if_pos hin] at h; exact nomatch h
  rw [mm_sz, if_neg hin] at h
  have k := kk _ h
  obtain ⟨p, l, e, R, s, m, args, below, meth, c, Q, c0, s0⟩ := Γ
  obtain ⟨hx, hb, hml, hown, hts, hK, hR, hlk, hz, hst, hU, hN⟩ := G
  intro H locs ls hl hP hD hS
  refine va_zast hx hb hK hP hD hS (tb_pos F i) 2 ((FL_at ar.1 hi).trans (by show some (_, ctR K F i (σ.1 F i) (σ.2 F i)) = _; rw [ar.2])) rfl hin d (fun H1 locs1 hP1 hD1 hS1 => ?_)
  have e1 := FL_set (K := K) (σ' := mm_wI σ F i x.toNatClampNeg (vp_nar .boolean v)) ar.1 hi (ct_upI σ F i _ _) ((ct_upI' σ F i _ _).trans (ar.2 K i _ _))
  rw [e1] at hP1 hD1
  exact k H1 locs1 ls hl hP1 hD1 hS1
theorem ww_lastore {F i N : Nat} {x : Int32} {v : Int64} {k : Mem → RR} (G : Good K Γ cc own nL fr lo) (ar : ArJ F N) (hi : i < cnt F) (d : decode cc pc = .ok (.lastore, 1)) (h : mm_stj σ F i N x v k = some fin) (kk : ∀ s, k s = some fin → WW K Γ n s (pc + 1) L S) : WW K Γ n σ pc L (.long v :: .int x :: .ref (aa K F i) :: S) := by
  by_cases hin : x < 0 ∨ N ≤ x.toNatClampNeg
  · rw [mm_stj, if_pos hin] at h; exact nomatch h
  rw [mm_stj, if_neg hin] at h
  have k := kk _ h
  obtain ⟨p, l, e, R, s, m, args, below, meth, c, Q, c0, s0⟩ := Γ
  obtain ⟨hx, hb, hml, hown, hts, hK, hR, hlk, hz, hst, hU, hN⟩ := G
  intro H locs ls hl hP hD hS
  refine va_last hx hb hK hP hD hS (tb_pos F i) 1 ((FL_at ar.1 hi).trans (by show some (_, ctR K F i (σ.1 F i) (σ.2 F i)) = _; rw [ar.2])) rfl hin d (fun H1 locs1 hP1 hD1 hS1 => ?_)
  have e1 := FL_set (K := K) (σ' := mm_wJ σ F i x.toNatClampNeg v) ar.1 hi (ct_upJ σ F i _ v) ((ct_upJ' σ F i _ v).trans (ar.2 K i _ _))
  rw [e1] at hP1 hD1
  exact k H1 locs1 ls hl hP1 hD1 hS1
-- fields
theorem ww_getf {F i q idx : Nat} {ty : FieldType} {fn : Bool} {k : Int32 → RR} (G : Good K Γ cc own nL fr lo) (fs : FsI own idx F q ty fn) (hi : i < cnt F) (d : decode cc pc = .ok (.getfield idx, 3)) (h : mm_gf σ F i q k = some fin) (kk : ∀ v, k v = some fin → WW K Γ n σ (pc + 3) L (.int v :: S)) : WW K Γ n σ pc L (.ref (aa K F i) :: S) := by
  have k := kk _ h
  obtain ⟨hF, ci, C, T, N, ty0, hc, hq, hin, hlink, hct, hty, hnm, hfn, hpd⟩ := fs
  obtain ⟨p, l, e, R, s, m, args, below, meth, c, Q, c0, s0⟩ := Γ
  obtain ⟨hx, hb, hml, hown, hts, hK, hR, hlk, hz, hst, hU, hN⟩ := G
  intro H locs ls hl hP hD hS
  obtain ⟨fl, e1, e2, e3, e4⟩ := hct K i (σ.1 F i) (σ.2 F i)
  exact va_get hx hb hts hin hown hK hP (tb_pos F i) ((FL_at hF hi).trans (by show some (_, ctR K F i (σ.1 F i) (σ.2 F i)) = _; rw [e1])) hc q hq (hts _ hlink) (fun _ z => z) e2 d (k H locs ls hl hP hD hS)
theorem ww_getr {F i q idx F2 : Nat} {g : Nat → Nat} (G : Good K Γ cc own nL fr lo) (fs : FsR own idx F q F2 g) (hi : i < cnt F) (d : decode cc pc = .ok (.getfield idx, 3)) (k : WW K Γ n σ (pc + 3) L (.ref (aa K F2 (g i)) :: S)) : WW K Γ n σ pc L (.ref (aa K F i) :: S) := by
  obtain ⟨hF, ci, C, T, N, hc, hq, hin, hlink, hct⟩ := fs
  obtain ⟨p, l, e, R, s, m, args, below, meth, c, Q, c0, s0⟩ := Γ
  obtain ⟨hx, hb, hml, hown, hts, hK, hR, hlk, hz, hst, hU, hN⟩ := G
  intro H locs ls hl hP hD hS
  obtain ⟨fl, e1, e2⟩ := hct K i (σ.1 F i) (σ.2 F i)
  exact va_get hx hb hts hin hown hK hP (tb_pos F i) ((FL_at hF hi).trans (by show some (_, ctR K F i (σ.1 F i) (σ.2 F i)) = _; rw [e1])) hc q hq (hts _ hlink) (fun _ z => z) e2 d (k H locs ls hl hP hD hS)
theorem ww_putx {F i q idx : Nat} {v : Int32} {ty : FieldType} (G : Good K Γ cc own nL fr lo) (fs : FsI own idx F q ty false) (hn : narrow ty (.int v) = .int v) (hfit : fits ty (.int v) = true) (hi : i < cnt F) (d : decode cc pc = .ok (.putfield idx, 3)) (k : WW K Γ n (mm_wI σ F i q v) (pc + 3) L S) : WW K Γ n σ pc L (.int v :: .ref (aa K F i) :: S) := by
  obtain ⟨hF, ci, C, T, N, ty0, hc, hq, hin, hlink, hct, hty, hnm, hfn, hpd⟩ := fs
  obtain ⟨p, l, e, R, s, m, args, below, meth, c, Q, c0, s0⟩ := Γ
  obtain ⟨hx, hb, hml, hown, hts, hK, hR, hlk, hz, hst, hU, hN⟩ := G
  intro H locs ls hl hP hD hS
  obtain ⟨fl, e1, e2, e3, e4⟩ := hct K i (σ.1 F i) (σ.2 F i)
  refine va_put hx hb hts hin ty0 hty hnm hown hK hP hD hS (tb_pos F i) ((FL_at hF hi).trans (by show some (_, ctR K F i (σ.1 F i) (σ.2 F i)) = _; rw [e1])) hc q hq (hts _ hlink) (fun _ z => z) hfn hpd hn hfit e3 d (fun H1 locs1 hP1 hD1 hS1 => ?_)
  have e5 := FL_set (K := K) (σ' := mm_wI σ F i q v) hF hi (ct_upI σ F i _ v) ((ct_upI' σ F i _ v).trans (e4 v))
  rw [e5] at hP1 hD1
  exact k H1 locs1 ls hl hP1 hD1 hS1
theorem ww_putf {F i q idx : Nat} {v : Int32} {k : Mem → RR} (G : Good K Γ cc own nL fr lo) (fs : FsI own idx F q .int false) (hi : i < cnt F) (d : decode cc pc = .ok (.putfield idx, 3)) (h : mm_pf σ F i q v k = some fin) (kk : ∀ s, k s = some fin → WW K Γ n s (pc + 3) L S) : WW K Γ n σ pc L (.int v :: .ref (aa K F i) :: S) :=
  ww_putx G fs rfl rfl hi d (kk _ h)
theorem ww_putz {F i q idx : Nat} {v : Int32} {k : Mem → RR} (G : Good K Γ cc own nL fr lo) (fs : FsI own idx F q .boolean false) (hi : i < cnt F) (d : decode cc pc = .ok (.putfield idx, 3)) (h : mm_pz σ F i q v k = some fin) (kk : ∀ s, k s = some fin → WW K Γ n s (pc + 3) L S) : WW K Γ n σ pc L (.int v :: .ref (aa K F i) :: S) := by
  by_cases hv : v = 0 ∨ v = 1
  · rw [mm_pz, if_pos hv] at h
    refine ww_putx G fs ?_ ?_ hi d (kk _ h)
    · rcases hv with rfl | rfl <;> decide
    · rcases hv with rfl | rfl <;> decide
  · rw [mm_pz, if_neg hv] at h; exact nomatch h
end VMem

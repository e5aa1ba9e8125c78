section VCalls
variable {K : KK} {Γ : Cx} {cc : ByteArray} {own : String} {nL fr lo : Nat} {σ : Mem} {pc : Nat} {L : List (Nat × Value)} {S : List Value} {rt : Option FieldType} {o : Oc} {q : Mem}
theorem Sta.moved {A : Nat → Prop} {U V : State} {H : Heap} {n d : String} (h : Sta A U H n d) (ha : U.vm.Alike V.vm) : Sta A V H n d := by
  obtain ⟨c, k, i, f, a, cell, v, h1, h2, h3, h4, h5, h6⟩ := h
  obtain ⟨k', hi', he⟩ := State.fieldFound?_setVm ha h2
  exact ⟨c, k', i, f, a, cell, v, by rw [ha.findClass]; exact h1, hi', h3, by rw [he]; exact h4, by rw [he]; exact h5, h6⟩
theorem Sta.kept {A : Nat → Prop} {U : State} {H H1 : Heap} {n d : String} (h : Sta A U H n d) (hq : ∀ a : Nat, a < H.size → ¬ A a → H1[a]? = H[a]?) : Sta A U H1 n d := by
  obtain ⟨c, k, i, f, a, cell, v, h1, h2, h3, h4, h5, h6, h7, h8, h9, h10, h11, h12⟩ := h
  exact ⟨c, k, i, f, a, cell, v, h1, h2, h3, h4, h5, by rw [hq a (Array.getElem?_eq_some_iff.mp h6).1 h12]; exact h6, h7, h8, h9, h10, h11, h12⟩
theorem Wd.moved {K : KK} {σ : Mem} {U V : State} (h : Wd K σ U) (hh : V.heap = U.heap) (ha : U.vm.Alike V.vm) : Wd K σ V := by
  obtain ⟨h2, h3, h4, h5, h6⟩ := h
  exact ⟨by rw [hh]; exact h2, h3, va_K.moved ha h4, by rw [hh]; exact Sta.moved h5 ha, by rw [hh]; exact Sta.moved h6 ha⟩
theorem Wd.of {K : KK} {σ : Mem} {s U : State} {H : Heap} {locs : List Loc} (hK : va_K K.2.1 vwCl (tyL K.2.2.1) s) (hU : StU K s s.heap) (hN : StN K s s.heap)
    (hP : va_P K.2.1 vwCl (FL K σ) H) (hD : va_D (AK K) (FL K σ)) (hS : va_S (AK K) s.heap H locs) (hh : U.heap = H) (ha : s.vm.Alike U.vm) : Wd K σ U :=
  ⟨by rw [hh]; exact hP, hD, va_K.moved ha hK, by rw [hh]; exact (Sta.moved hU ha).kept hS.2.1, by rw [hh]; exact (Sta.moved hN ha).kept hS.2.1⟩
theorem PcO_blind {av : List Value} : FrameBlind (PcO K av σ) := fun a U g mk h => ⟨h.1, h.2.moved rfl (Vm.Alike.refl U.vm)⟩
theorem Ct_of {l : Launch} {y : MethodName} {b : ByteArray} {mL : Nat} {av : List Value} {L : List (Nat × Value)} (hy : plainFor y = true) (ho : y.cls = own) (hlen : (lg_sl av).length ≤ mL) (hL : lv_args 0 av = L)
    (body : ∀ Γ : Cx, Good K Γ b own mL fr lo → Ends K Γ rt o q → WW K Γ 0 σ 0 L []) : Ct l K y b mL rt fr lo av σ o q := by
  intro hst
  subst ho
  subst hL
  cases o with
  | inr r =>
    refine va_MetF (cc := b) (maxL := mL) (ret := rt) hy rfl ?_
    intro p e s m args below meth c s₁ B hml hv
    obtain ⟨rfl, hP, hD, hK, hU, hN⟩ := hv
    have hts := atoms_spec (ws := Cond.code y b mL rt :: wAll) B.pre
    rw [lg_entry_eq]
    exact body (p, l, e, ({ frames := fr, cells := 0, slots := 0, locals := lo } : Room), s, m, av.toArray, below, meth, c, _, 0, 0) ⟨B.exec, B.bytes, hml, findClass_of_methodNamed B.named, fun w h => hts w (List.mem_cons_of_mem _ h), hK, ⟨Nat.le_refl _, Nat.le_refl _⟩, B.notSynchronized, ⟨σ, hP⟩, hst, hU, hN⟩
      ⟨rfl, B.returns, fun pc => covers_of_empty (B.noHandlers (hts _ List.mem_cons_self)) pc, fun e h => (by cases h), rfl, rfl⟩ s.heap [] _ (by rw [hml]; exact lv_entry av hlen) hP hD va_S.rf
  | inl e =>
    refine MetFree.of_bodySF (code := b) (maxLocals := mL) (ret := rt) hy ?_ ?_
    · intro args s m h hn
      obtain ⟨meth, c, h1, h2, h3, h4, h5, h6, -, -⟩ := Cond.code_spec hn (atoms_spec (ws := Cond.code y b mL rt :: wAll) h _ List.mem_cons_self)
      exact ⟨meth, c, h1, h2, h3, h4, h5, h6⟩
    · intro p e' s m args below meth c s₁ B hml hv _
      obtain ⟨rfl, hP, hD, hK, hU, hN⟩ := hv
      have hts := atoms_spec (ws := Cond.code y b mL rt :: wAll) B.pre
      have hh0 : s₁.heap = s.heap := by rw [B.state]; rfl
      have hw := body (p, l, e', ({ frames := fr, cells := 1, slots := 6, locals := lo } : Room), s, m, av.toArray, below, meth, c, EQ K below av.toArray s (.inl e) q, 0, 0) ⟨B.exec, B.bytes, hml, findClass_of_methodNamed B.named, fun w h => hts w (List.mem_cons_of_mem _ h), hK, ⟨Nat.le_refl _, Nat.le_refl _⟩, B.notSynchronized, ⟨σ, hP⟩, hst, hU, hN⟩
        ⟨rfl, B.returns, fun pc => covers_of_empty (B.noHandlers (hts _ List.mem_cons_self)) pc, fun _ _ => ⟨Nat.le_refl _, Nat.le_refl _⟩, rfl, rfl⟩ s.heap [] _ (by rw [hml]; exact lv_entry av hlen) hP hD va_S.rf
      rw [lg_entry_eq]
      obtain ⟨t, a1, oc, b1, b2, b3⟩ := hw s₁ hh0 (Stand.of_body B)
      exact ⟨t, oc, a1, b1, b2, b3⟩
theorem ww_iret {v : Int32} (G : Good K Γ cc own nL fr lo) (E : Ends K Γ (some .int) o q) (d : decode cc pc = .ok (.ireturn, 1)) (h : mm_ri v σ = some (o, q)) : WW K Γ 0 σ pc L [.int v] := by
  obtain ⟨rfl, rfl⟩ : .inr (some (.int v)) = o ∧ σ = q := ⟨congrArg Prod.fst (Option.some.inj h), congrArg Prod.snd (Option.some.inj h)⟩
  obtain ⟨p, l, e, R, s, m, args, below, meth, c, Q, c0, s0⟩ := Γ
  obtain ⟨hx, hb, hml, hown, hts, hK, hR, hlk, hz, hst, hU, hN⟩ := G
  obtain ⟨rfl, hr, hex, hc, rfl, rfl⟩ := E
  intro H locs ls hl hP hD hS
  exact W.iret hx hb hr (fun t ht hW => ⟨rfl, Wd.of hK hU hN hP hD hS ht hW.alike, hS.F ht⟩) hS.2.2 d hlk
theorem ww_zret {v : Int32} (G : Good K Γ cc own nL fr lo) (E : Ends K Γ (some .boolean) o q) (d : decode cc pc = .ok (.ireturn, 1)) (h : mm_rz v σ = some (o, q)) : WW K Γ 0 σ pc L [.int v] := by
  by_cases hv : v = 0 ∨ v = 1
  case neg => rw [mm_rz, if_neg hv] at h; exact nomatch h
  rw [mm_rz, if_pos hv] at h
  obtain ⟨rfl, rfl⟩ : .inr (some (.int v)) = o ∧ σ = q := ⟨congrArg Prod.fst (Option.some.inj h), congrArg Prod.snd (Option.some.inj h)⟩
  obtain ⟨p, l, e, R, s, m, args, below, meth, c, Q, c0, s0⟩ := Γ
  obtain ⟨hx, hb, hml, hown, hts, hK, hR, hlk, hz, hst, hU, hN⟩ := G
  obtain ⟨rfl, hr, hex, hc, rfl, rfl⟩ := E
  intro H locs ls hl hP hD hS
  exact W.zret hx hb hr (by rcases hv with rfl | rfl <;> decide) (fun t ht hW => ⟨rfl, Wd.of hK hU hN hP hD hS ht hW.alike, hS.F ht⟩) hS.2.2 d hlk
theorem ww_lret {v : Int64} (G : Good K Γ cc own nL fr lo) (E : Ends K Γ (some .long) o q) (d : decode cc pc = .ok (.lreturn, 1)) (h : mm_rj v σ = some (o, q)) : WW K Γ 0 σ pc L [.long v] := by
  obtain ⟨rfl, rfl⟩ : .inr (some (.long v)) = o ∧ σ = q := ⟨congrArg Prod.fst (Option.some.inj h), congrArg Prod.snd (Option.some.inj h)⟩
  obtain ⟨p, l, e, R, s, m, args, below, meth, c, Q, c0, s0⟩ := Γ
  obtain ⟨hx, hb, hml, hown, hts, hK, hR, hlk, hz, hst, hU, hN⟩ := G
  obtain ⟨rfl, hr, hex, hc, rfl, rfl⟩ := E
  intro H locs ls hl hP hD hS
  exact W.lret hx hb hr (fun t ht hW => ⟨rfl, Wd.of hK hU hN hP hD hS ht hW.alike, hS.F ht⟩) hS.2.2 d hlk
theorem ww_vret (G : Good K Γ cc own nL fr lo) (E : Ends K Γ none o q) (d : decode cc pc = .ok (.return_, 1)) (h : mm_rv σ = some (o, q)) : WW K Γ 0 σ pc L [] := by
  obtain ⟨rfl, rfl⟩ : .inr none = o ∧ σ = q := ⟨congrArg Prod.fst (Option.some.inj h), congrArg Prod.snd (Option.some.inj h)⟩
  obtain ⟨p, l, e, R, s, m, args, below, meth, c, Q, c0, s0⟩ := Γ
  obtain ⟨hx, hb, hml, hown, hts, hK, hR, hlk, hz, hst, hU, hN⟩ := G
  obtain ⟨rfl, hr, hex, hc, rfl, rfl⟩ := E
  intro H locs ls hl hP hD hS
  exact W.vret hx hb hr (fun t ht hW => ⟨rfl, Wd.of hK hU hN hP hD hS ht hW.alike, hS.F ht⟩) hS.2.2 d hlk
-- behind a call that returns
theorem ran_ret {p : Program} {l : Launch} {e : Env} {R : Room} {s : State} {m : MethodId} {args : Array Value} {below : List Frame} {meth : Method} {c : Code} {H : Heap} {locs : List Loc} {cells slots : Nat} {Q : State → Prop} {ls : Array Slot} {st0 rest : List Value} {a : Array Value} {r : Option Value} {q1 : Mem}
    (hr : va_Run p l e R s m args below meth c H locs cells slots 0 0 (F0 m pc ls st0) rest (QcR K r q1 a) (AK K)) (hS : va_S (AK K) s.heap H locs)
    (kk : ∀ (H1 : Heap) (locs1 : List Loc), va_P K.2.1 vwCl (FL K q1) H1 → va_D (AK K) (FL K q1) → va_S (AK K) s.heap H1 locs1 → W p l e R s m args below meth c H1 locs1 cells slots Q (F0 m (pc + 3) ls (r.toList ++ rest))) :
    W p l e R s m args below meth c H locs cells slots Q (F0 m pc ls st0) := by
  intro T hT X
  obtain ⟨v, st₀, t, T', L, h0, X', hL, e1, e2, ⟨hv, hW, hF⟩, st⟩ := hr T hT X
  cases hv
  obtain ⟨hz, hk⟩ := hF
  rw [h0] at hz hk
  have hS' : va_S (AK K) s.heap T'.heap (locs ++ L) := ⟨Nat.le_trans hS.1 (by rw [e1]; exact hz), fun q h1 h2 => by rw [e1, hk q (Nat.lt_of_lt_of_le h1 hS.1) h2]; exact hS.2.1 q h1 h2, fun q hq => (List.mem_append.mp hq).elim (hS.2.2 q) (hL q)⟩
  obtain ⟨t2, a1, b1⟩ := kk T'.heap (locs ++ L) (by rw [e1]; exact hW.1) hW.2.1 hS' T' rfl X'
  exact ⟨t2, st t2 a1, b1⟩
theorem ww_goR {st0 rest : List Value} {a : Array Value} {r : Option Value} {q1 : Mem} (hr : match Γ with | (p, l, e, R, s, m, args, below, meth, c, Q, c0, s0) => ∀ (H : Heap) (locs : List Loc) (ls : Array Slot), lv_has ls c.maxLocals L → va_P K.2.1 vwCl (FL K σ) H → va_D (AK K) (FL K σ) → va_S (AK K) s.heap H locs → va_Run p l e R s m args below meth c H locs (c0 + 0) (s0 + 6 * 0) 0 0 (F0 m pc ls st0) rest (QcR K r q1 a) (AK K))
    (k : WW K Γ 0 q1 (pc + 3) L (r.toList ++ rest)) : WW K Γ 0 σ pc L st0 := by
  obtain ⟨p, l, e, R, s, m, args, below, meth, c, Q, c0, s0⟩ := Γ
  intro H locs ls hl hP hD hS
  exact ran_ret (hr H locs ls hl hP hD hS) hS (fun H1 locs1 h1 h2 h3 => k H1 locs1 ls hl h1 h2 h3)
theorem ww_callV {As rest : List Value} {i F idx na : Nat} {y : MethodName} {b1 : ByteArray} {mL fr1 lo1 : Nat} {rt1 : Option FieldType} {r : Option Value} {q1 : Mem} (G : Good K Γ cc own nL fr lo) (E : Ends K Γ rt o q) (cs : CsV own idx y b1 mL rt1 na F) (hi : i < cnt F) (hC : Ct (Γ.2.1) K y b1 mL rt1 fr1 lo1 (.ref (aa K F i) :: As) σ (.inr r) q1)
    (hS0 : S = As.reverse ++ .ref (aa K F i) :: rest) (hn : As.length = na) (hw : (rest.map fun v => v.category).sum ≤ 8) (d : decode cc pc = .ok (.invokevirtual idx, 3)) (hR : fr1 + 1 ≤ fr ∧ 8 + (mL + 11) + lo1 ≤ lo) (k : WW K Γ 0 q1 (pc + 3) L (r.toList ++ rest)) : WW K Γ 0 σ pc L S := by
  subst hS0
  refine ww_goR (a := (Value.ref (aa K F i) :: As).toArray) (q1 := q1) (r := r) (rest := rest) ?_ k
  obtain ⟨p, l, e, R, s, m, args, below, meth, c, Q, c0, s0⟩ := Γ
  obtain ⟨hx, hb, hml, hown, hts, hK, hRR, hlk, hz, hst, hU, hN⟩ := G
  obtain ⟨rfl, hrt, hex, hc, rfl, rfl⟩ := E
  obtain ⟨hF, ci, T, N, hcl, hct, hgood, hd⟩ := cs
  intro H locs ls hl hP hD hS
  have hcw : CallW R s args own y.cls idx y b1 mL rt1 (.code y b1 mL rt1 :: wAll) { frames := fr1, cells := 0, slots := 0, locals := lo1 } 0 0 na :=
    cwV na hts hgood rfl rfl rfl ⟨rfl, hd⟩ ⟨Nat.le_trans hR.1 hRR.1, Nat.le_trans hR.2 hRR.2⟩
  obtain ⟨fl, e1⟩ := hct K i (σ.1 F i) (σ.2 F i)
  refine va_runV ⟨hx, hb, rfl, hown, hts⟩ (hC hst) hcw ⟨PcO_blind, ?_, fun U hU' hW => ⟨rfl, Wd.of hK hU hN hP hD hS hU' hW.alike⟩⟩ rfl hn hl.1 rfl (lv_room hw) d ⟨Nat.zero_le _, Nat.zero_le _⟩
  exact va_recv (q := (y.cls, T, N)) hK hP hcl ((FL_at hF hi).trans (by show some (_, ctR K F i (σ.1 F i) (σ.2 F i)) = _; rw [e1]))
theorem ww_callS {As rest : List Value} {idx na : Nat} {y : MethodName} {b1 : ByteArray} {mL fr1 lo1 : Nat} {rt1 : Option FieldType} {r : Option Value} {q1 : Mem} (G : Good K Γ cc own nL fr lo) (E : Ends K Γ rt o q) (cs : CsS own idx y b1 mL rt1 na) (hC : Ct (Γ.2.1) K y b1 mL rt1 fr1 lo1 As σ (.inr r) q1)
    (hS0 : S = As.reverse ++ rest) (hn : As.length = na) (hw : (rest.map fun v => v.category).sum ≤ 8) (d : decode cc pc = .ok (.invokestatic idx, 3)) (hR : fr1 + 1 ≤ fr ∧ 8 + (mL + 11) + lo1 ≤ lo) (k : WW K Γ 0 q1 (pc + 3) L (r.toList ++ rest)) : WW K Γ 0 σ pc L S := by
  subst hS0
  refine ww_goR (a := As.toArray) (q1 := q1) (r := r) (rest := rest) ?_ k
  obtain ⟨p, l, e, R, s, m, args, below, meth, c, Q, c0, s0⟩ := Γ
  obtain ⟨hx, hb, hml, hown, hts, hK, hRR, hlk, hz, hst, hU, hN⟩ := G
  obtain ⟨rfl, hrt, hex, hc, rfl, rfl⟩ := E
  intro H locs ls hl hP hD hS
  have hcw : CallB R s args own idx y b1 mL rt1 (.code y b1 mL rt1 :: wAll) { frames := fr1, cells := 0, slots := 0, locals := lo1 } 0 0 na ∧ (Cond.static y).before args s = true :=
    va_cwS na hts cs.1 rfl rfl rfl cs.2 ⟨Nat.le_trans hR.1 hRR.1, Nat.le_trans hR.2 hRR.2⟩
  exact va_runS ⟨hx, hb, rfl, hown, hts⟩ (hC hst) hcw ⟨PcO_blind, fun U hU' hW => ⟨rfl, Wd.of hK hU hN hP hD hS hU' hW.alike⟩⟩ rfl hn hl.1 rfl (lv_room hw) d ⟨Nat.zero_le _, Nat.zero_le _⟩
theorem ww_cvI {As rest : List Value} {i F : Nat} {idx na : Nat} {y : MethodName} {b1 : ByteArray} {mL fr1 lo1 : Nat} {rt1 : Option FieldType} {X : RR} {k : Int32 → Mem → RR} (G : Good K Γ cc own nL fr lo) (E : Ends K Γ rt o q) (cs : CsV own idx y b1 mL rt1 na F) (hi : i < cnt F) (hC : ∀ o1 q1, X = some (o1, q1) → Ct (Γ.2.1) K y b1 mL rt1 fr1 lo1 (.ref (aa K F i) :: As) σ o1 q1) (hS0 : S = As.reverse ++ .ref (aa K F i) :: rest) (hn : As.length = na) (hw : (rest.map fun v => v.category).sum ≤ 8) (d : decode cc pc = .ok (.invokevirtual idx, 3)) (hR : fr1 + 1 ≤ fr ∧ 8 + (mL + 11) + lo1 ≤ lo) (h : mm_cI X k = some (o, q)) (kk : ∀ v s, k v s = some (o, q) → WW K Γ 0 s (pc + 3) L (.int v :: rest)) : WW K Γ 0 σ pc L S := by
  unfold mm_cI at h
  split at h
  · exact ww_callV G E cs hi (hC _ _ rfl) hS0 hn hw d hR (kk _ _ h)
  · exact nomatch h
theorem ww_cvJ {As rest : List Value} {i F : Nat} {idx na : Nat} {y : MethodName} {b1 : ByteArray} {mL fr1 lo1 : Nat} {rt1 : Option FieldType} {X : RR} {k : Int64 → Mem → RR} (G : Good K Γ cc own nL fr lo) (E : Ends K Γ rt o q) (cs : CsV own idx y b1 mL rt1 na F) (hi : i < cnt F) (hC : ∀ o1 q1, X = some (o1, q1) → Ct (Γ.2.1) K y b1 mL rt1 fr1 lo1 (.ref (aa K F i) :: As) σ o1 q1) (hS0 : S = As.reverse ++ .ref (aa K F i) :: rest) (hn : As.length = na) (hw : (rest.map fun v => v.category).sum ≤ 8) (d : decode cc pc = .ok (.invokevirtual idx, 3)) (hR : fr1 + 1 ≤ fr ∧ 8 + (mL + 11) + lo1 ≤ lo) (h : mm_cJ X k = some (o, q)) (kk : ∀ v s, k v s = some (o, q) → WW K Γ 0 s (pc + 3) L (.long v :: rest)) : WW K Γ 0 σ pc L S := by
  unfold mm_cJ at h
  split at h
  · exact ww_callV G E cs hi (hC _ _ rfl) hS0 hn hw d hR (kk _ _ h)
  · exact nomatch h
theorem ww_cvV {As rest : List Value} {i F : Nat} {idx na : Nat} {y : MethodName} {b1 : ByteArray} {mL fr1 lo1 : Nat} {rt1 : Option FieldType} {X : RR} {k : Mem → RR} (G : Good K Γ cc own nL fr lo) (E : Ends K Γ rt o q) (cs : CsV own idx y b1 mL rt1 na F) (hi : i < cnt F) (hC : ∀ o1 q1, X = some (o1, q1) → Ct (Γ.2.1) K y b1 mL rt1 fr1 lo1 (.ref (aa K F i) :: As) σ o1 q1) (hS0 : S = As.reverse ++ .ref (aa K F i) :: rest) (hn : As.length = na) (hw : (rest.map fun v => v.category).sum ≤ 8) (d : decode cc pc = .ok (.invokevirtual idx, 3)) (hR : fr1 + 1 ≤ fr ∧ 8 + (mL + 11) + lo1 ≤ lo) (h : mm_cV X k = some (o, q)) (kk : ∀ s, k s = some (o, q) → WW K Γ 0 s (pc + 3) L (rest)) : WW K Γ 0 σ pc L S := by
  unfold mm_cV at h
  split at h
  · exact ww_callV G E cs hi (hC _ _ rfl) hS0 hn hw d hR (kk _ h)
  · exact nomatch h
theorem ww_csI {As rest : List Value} {idx na : Nat} {y : MethodName} {b1 : ByteArray} {mL fr1 lo1 : Nat} {rt1 : Option FieldType} {X : RR} {k : Int32 → Mem → RR} (G : Good K Γ cc own nL fr lo) (E : Ends K Γ rt o q) (cs : CsS own idx y b1 mL rt1 na) (hC : ∀ o1 q1, X = some (o1, q1) → Ct (Γ.2.1) K y b1 mL rt1 fr1 lo1 As σ o1 q1) (hS0 : S = As.reverse ++ rest) (hn : As.length = na) (hw : (rest.map fun v => v.category).sum ≤ 8) (d : decode cc pc = .ok (.invokestatic idx, 3)) (hR : fr1 + 1 ≤ fr ∧ 8 + (mL + 11) + lo1 ≤ lo) (h : mm_cI X k = some (o, q)) (kk : ∀ v s, k v s = some (o, q) → WW K Γ 0 s (pc + 3) L (.int v :: rest)) : WW K Γ 0 σ pc L S := by
  unfold mm_cI at h
  split at h
  · exact ww_callS G E cs (hC _ _ rfl) hS0 hn hw d hR (kk _ _ h)
  · exact nomatch h
theorem ww_csJ {As rest : List Value} {idx na : Nat} {y : MethodName} {b1 : ByteArray} {mL fr1 lo1 : Nat} {rt1 : Option FieldType} {X : RR} {k : Int64 → Mem → RR} (G : Good K Γ cc own nL fr lo) (E : Ends K Γ rt o q) (cs : CsS own idx y b1 mL rt1 na) (hC : ∀ o1 q1, X = some (o1, q1) → Ct (Γ.2.1) K y b1 mL rt1 fr1 lo1 As σ o1 q1) (hS0 : S = As.reverse ++ rest) (hn : As.length = na) (hw : (rest.map fun v => v.category).sum ≤ 8) (d : decode cc pc = .ok (.invokestatic idx, 3)) (hR : fr1 + 1 ≤ fr ∧ 8 + (mL + 11) + lo1 ≤ lo) (h : mm_cJ X k = some (o, q)) (kk : ∀ v s, k v s = some (o, q) → WW K Γ 0 s (pc + 3) L (.long v :: rest)) : WW K Γ 0 σ pc L S := by
  unfold mm_cJ at h
  split at h
  · exact ww_callS G E cs (hC _ _ rfl) hS0 hn hw d hR (kk _ _ h)
  · exact nomatch h
theorem ww_csV {As rest : List Value} {idx na : Nat} {y : MethodName} {b1 : ByteArray} {mL fr1 lo1 : Nat} {rt1 : Option FieldType} {X : RR} {k : Mem → RR} (G : Good K Γ cc own nL fr lo) (E : Ends K Γ rt o q) (cs : CsS own idx y b1 mL rt1 na) (hC : ∀ o1 q1, X = some (o1, q1) → Ct (Γ.2.1) K y b1 mL rt1 fr1 lo1 As σ o1 q1) (hS0 : S = As.reverse ++ rest) (hn : As.length = na) (hw : (rest.map fun v => v.category).sum ≤ 8) (d : decode cc pc = .ok (.invokestatic idx, 3)) (hR : fr1 + 1 ≤ fr ∧ 8 + (mL + 11) + lo1 ≤ lo) (h : mm_cV X k = some (o, q)) (kk : ∀ s, k s = some (o, q) → WW K Γ 0 s (pc + 3) L (rest)) : WW K Γ 0 σ pc L S := by
  unfold mm_cV at h
  split at h
  · exact ww_callS G E cs (hC _ _ rfl) hS0 hn hw d hR (kk _ h)
  · exact nomatch h
theorem ww_tsV {As rest : List Value} {idx na : Nat} {y : MethodName} {b1 : ByteArray} {mL fr1 lo1 : Nat} {rt1 : Option FieldType} {X : RR} {k : Mem → RR} (G : Good K Γ cc own nL fr lo) (E : Ends K Γ rt o q) (cs : CsS own idx y b1 mL rt1 na) (hC : ∀ o1 q1, X = some (o1, q1) → Ct (Γ.2.1) K y b1 mL rt1 fr1 lo1 As σ o1 q1) (hS0 : S = As.reverse ++ rest) (hn : As.length = na) (hw : (rest.map fun v => v.category).sum ≤ 8) (d : decode cc pc = .ok (.invokestatic idx, 3)) (hR : fr1 + 1 ≤ fr ∧ 8 + (mL + 11) + lo1 ≤ lo) (h : mm_tV X k = some (o, q)) (kk : ∀ s, k s = some (o, q) → WW K Γ 0 s (pc + 3) L (rest)) : WW K Γ 0 σ pc L S := by
  unfold mm_tV at h
  split at h
  · exact ww_callS G E cs (hC _ _ rfl) hS0 hn hw d hR (kk _ h)
  · sorry
  · exact nomatch h
theorem ww_thr {cls : String} {ik ic e1 : Nat} (G : Good K Γ cc own nL fr lo) (E : Ends K Γ rt o q) (xs : Xs own ik ic cls e1) (d0 : decode cc pc = .ok (.new ik, 3)) (d3 : decode cc (pc + 3) = .ok (.dup, 1)) (d4 : decode cc (pc + 4) = .ok (.invokespecial ic, 3)) (d7 : decode cc (pc + 7) = .ok (.athrow, 1)) (hf : 6 ≤ fr ∧ 89 ≤ lo) (h : mm_th e1 σ = some (o, q)) : WW K Γ 0 σ pc L S := by
  sorry
theorem ww_acopy {F i N F2 i2 N2 idx : Nat} {sp dp w : Int32} {k : Mem → RR} (G : Good K Γ cc own nL fr lo) (ac : Ac own idx) (a1 : ArJ F N) (h1 : i < cnt F) (a2 : ArJ F2 N2) (h2 : i2 < cnt F2) (hne : F ≠ F2) (d : decode cc pc = .ok (.invokestatic idx, 3)) (h : mm_cp σ F i N sp F2 i2 N2 dp w k = some (o, q)) (kk : ∀ s, k s = some (o, q) → WW K Γ 0 s (pc + 3) L S) : WW K Γ 0 σ pc L (.int w :: .int dp :: .ref (aa K F2 i2) :: .int sp :: .ref (aa K F i) :: S) := by
  sorry
-- the library's own
theorem ww_mmax {x y : Int32} {idx : Nat} (G : Good K Γ cc own nL fr lo) (mx : Mx own idx Lib.Math.max.name Lib.Math.max.code) (hf : 1 ≤ fr ∧ 21 ≤ lo) (hw : (S.map fun v => v.category).sum ≤ 8) (d : decode cc pc = .ok (.invokestatic idx, 3)) (k : WW K Γ 0 σ (pc + 3) L (.int (mm_max x y) :: S)) : WW K Γ 0 σ pc L (.int y :: .int x :: S) := by
  sorry
theorem ww_mmin {x y : Int32} {idx : Nat} (G : Good K Γ cc own nL fr lo) (mx : Mx own idx Lib.Math.min.name Lib.Math.min.code) (hf : 1 ≤ fr ∧ 21 ≤ lo) (hw : (S.map fun v => v.category).sum ≤ 8) (d : decode cc pc = .ok (.invokestatic idx, 3)) (k : WW K Γ 0 σ (pc + 3) L (.int (mm_min x y) :: S)) : WW K Γ 0 σ pc L (.int y :: .int x :: S) := by
  sorry
end VCalls

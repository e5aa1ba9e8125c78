section VCalls
variable {K : KK} {Γ : Cx} {cc : ByteArray} {own : String} {nL fr lo : Nat} {σ : Mem} {pc : Nat} {L : List (Nat × Value)} {S : List Value} {rt : Option FieldType} {o : Oc} {q : Mem}
theorem Sta.moved {A : Nat → Prop} {U V : State} {H : Heap} {n d : String} (h : Sta A U H n d) (ha : U.vm.Alike V.vm) : Sta A V H n d := by
  obtain ⟨c, k, i, f, a, cell, v, h1, h2, h3, h4, h5, h6⟩ := h
  obtain ⟨k', hi', he⟩ := State.fieldFound?_setVm ha h2
  exact ⟨c, k', i, f, a, cell, v, by rw [ha.findClass]; exact h1, hi', h3, by rw [he]; exact h4, by rw [he]; exact h5, h6⟩
theorem Sta.kept {A : Nat → Prop} {U : State} {H H1 : Heap} {n d : String} (h : Sta A U H n d) (hq : ∀ a : Nat, a < H.size → ¬ A a → H1[a]? = H[a]?) : Sta A U H1 n d := by
  obtain ⟨c, k, i, f, a, cell, v, h1, h2, h3, h4, h5, h6, h7, h8, h9, h10, h11, h12⟩ := h
  exact ⟨c, k, i, f, a, cell, v, h1, h2, h3, h4, h5, by rw [hq a (Array.getElem?_eq_some_iff.mp h6).1 h12]; exact h6, h7, h8, h9, h10, h11, h12⟩
theorem Nws.moved {U V : State} (h : Nws U) (ha : U.vm.Alike V.vm) : Nws V := by
  have hd : ∀ x : MethodName, (Cond.declares x).before #[] U = true → (Cond.declares x).before #[] V = true := fun x hx => va_tabs rfl (rfl : (U.setVm V.vm).vm = V.vm) (by rw [Cond.declares_setVm ha]; exact hx)
  have hc : ∀ a b : String, (Cond.castable a b).before #[] U = true → (Cond.castable a b).before #[] V = true := fun a b hx => va_tabs rfl (rfl : (U.setVm V.vm).vm = V.vm) (by rw [Cond.castable_setVm ha]; exact hx)
  refine ⟨?_, h.2.1.moved ha, h.2.2.1.moved ha, h.2.2.2.moved ha⟩
  intro w hw
  have hx := h.1 w hw
  simp only [xs_nw, List.mem_cons, List.not_mem_nil, or_false] at hw
  rcases hw with rfl | rfl | rfl | rfl | rfl | rfl | rfl
  · exact hd _ hx
  · exact hd _ hx
  · exact hd _ hx
  · exact hc _ _ hx
  · exact hc _ _ hx
  · exact hc _ _ hx
  · exact hc _ _ hx
theorem StN.moved {K : KK} {U V : State} {H : Heap} (h : StN K U H) (ha : U.vm.Alike V.vm) : StN K V H := ⟨Sta.moved h.1 ha, h.2.moved ha⟩
theorem StN.kept {K : KK} {U : State} {H H1 : Heap} (h : StN K U H) (hq : ∀ a : Nat, a < H.size → ¬ AK K a → H1[a]? = H[a]?) : StN K U H1 := ⟨Sta.kept h.1 hq, h.2⟩
theorem Wd.moved {K : KK} {σ : Mem} {U V : State} (h : Wd K σ U) (hh : V.heap = U.heap) (ha : U.vm.Alike V.vm) : Wd K σ V := by
  obtain ⟨h2, h3, h4, h5, h6⟩ := h
  exact ⟨by rw [hh]; exact h2, h3, va_K.moved ha h4, by rw [hh]; exact Sta.moved h5 ha, by rw [hh]; exact StN.moved h6 ha⟩
theorem Wd.of {K : KK} {σ : Mem} {s U : State} {H : Heap} {locs : List Loc} (hK : va_K K.2.1 vwCl (tyL K.2.2.1) s) (hU : StU K s s.heap) (hN : StN K s s.heap)
    (hP : va_P K.2.1 vwCl (FL K σ) H) (hD : va_D (AK K) (FL K σ)) (hS : va_S (AK K) s.heap H locs) (hh : U.heap = H) (ha : s.vm.Alike U.vm) : Wd K σ U :=
  ⟨by rw [hh]; exact hP, hD, va_K.moved ha hK, by rw [hh]; exact (Sta.moved hU ha).kept hS.2.1, by rw [hh]; exact (StN.moved hN ha).kept hS.2.1⟩
theorem PcO_blind {av : List Value} : FrameBlind (PcO K av σ) := fun a U g mk h => ⟨h.1, h.2.moved rfl (Vm.Alike.refl U.vm)⟩
theorem Ct_of {l : Launch} {y : MethodName} {b : ByteArray} {mL : Nat} {av : List Value} {L : List (Nat × Value)} (hy : plainFor y = true) (ho : y.cls = own) (hlen : (lg_sl av).length ≤ mL) (hL : lv_args 0 av = L)
    (body : ∀ Γ : Cx, Good K Γ b own mL fr lo → Ends K Γ rt o q → WW K Γ 0 σ 0 L []) : Ct l K y b mL rt fr lo av σ o q := by
  intro hst
  subst ho
  subst hL
  cases o with
  | inr r =>
    refine va_MetF (cc := b) (maxL := mL) (ret := rt) hy rfl ?_
    intro p e s m args below meth c s₁ B hml hv
    obtain ⟨rfl, hP, hD, hK, hU, hN⟩ := hv
    have hts := atoms_spec (ws := Cond.code y b mL rt :: wAll) B.pre
    rw [lg_entry_eq]
    exact body (p, l, e, ({ frames := fr, cells := 0, slots := 0, locals := lo } : Room), s, m, av.toArray, below, meth, c, _, 0, 0) ⟨B.exec, B.bytes, hml, findClass_of_methodNamed B.named, fun w h => hts w (List.mem_cons_of_mem _ h), hK, ⟨Nat.le_refl _, Nat.le_refl _, Nat.zero_le _, Nat.zero_le _⟩, B.notSynchronized, trivial, hst, hU, hN⟩
      ⟨rfl, B.returns, fun pc => covers_of_empty (B.noHandlers (hts _ List.mem_cons_self)) pc, fun e h => (by cases h), rfl, rfl⟩ s.heap [] _ (by rw [hml]; exact lv_entry av hlen) hP hD va_S.rf
  | inl e =>
    refine MetFree.of_bodySF (code := b) (maxLocals := mL) (ret := rt) hy ?_ ?_
    · intro args s m h hn
      obtain ⟨meth, c, h1, h2, h3, h4, h5, h6, -, -⟩ := Cond.code_spec hn (atoms_spec (ws := Cond.code y b mL rt :: wAll) h _ List.mem_cons_self)
      exact ⟨meth, c, h1, h2, h3, h4, h5, h6⟩
    · intro p e' s m args below meth c s₁ B hml hv _
      obtain ⟨rfl, hP, hD, hK, hU, hN⟩ := hv
      have hts := atoms_spec (ws := Cond.code y b mL rt :: wAll) B.pre
      have hh0 : s₁.heap = s.heap := by rw [B.state]; rfl
      have hw := body (p, l, e', ({ frames := fr, cells := 1, slots := 6, locals := lo } : Room), s, m, av.toArray, below, meth, c, EQ K below av.toArray s (.inl e) q, 0, 0) ⟨B.exec, B.bytes, hml, findClass_of_methodNamed B.named, fun w h => hts w (List.mem_cons_of_mem _ h), hK, ⟨Nat.le_refl _, Nat.le_refl _, Nat.zero_le _, Nat.zero_le _⟩, B.notSynchronized, trivial, hst, hU, hN⟩
        ⟨rfl, B.returns, fun pc => covers_of_empty (B.noHandlers (hts _ List.mem_cons_self)) pc, fun _ _ => ⟨Nat.le_refl _, Nat.le_refl _⟩, rfl, rfl⟩ s.heap [] _ (by rw [hml]; exact lv_entry av hlen) hP hD va_S.rf
      rw [lg_entry_eq]
      obtain ⟨t, a1, oc, b1, b2, b3⟩ := hw s₁ hh0 (Stand.of_body B)
      exact ⟨t, oc, a1, b1, b2, b3⟩
theorem ww_iret {v : Int32} (G : Good K Γ cc own nL fr lo) (E : Ends K Γ (some .int) o q) (d : decode cc pc = .ok (.ireturn, 1)) (h : mm_ri v σ = some (o, q)) : WW K Γ 0 σ pc L [.int v] := by
  obtain ⟨rfl, rfl⟩ : .inr (some (.int v)) = o ∧ σ = q := ⟨congrArg Prod.fst (Option.some.inj h), congrArg Prod.snd (Option.some.inj h)⟩
  obtain ⟨p, l, e, R, s, m, args, below, meth, c, Q, c0, s0⟩ := Γ
  obtain ⟨hx, hb, hml, hown, hts, hK, hR, hlk, hz, hst, hU, hN⟩ := G
  obtain ⟨rfl, hr, hex, hc, rfl, rfl⟩ := E
  intro H locs ls hl hP hD hS
  exact W.iret hx hb hr (fun t ht hW => ⟨rfl, Wd.of hK hU hN hP hD hS ht hW.alike, hS.F ht⟩) hS.2.2 d hlk
theorem ww_zret {v : Int32} (G : Good K Γ cc own nL fr lo) (E : Ends K Γ (some .boolean) o q) (d : decode cc pc = .ok (.ireturn, 1)) (h : mm_rz v σ = some (o, q)) : WW K Γ 0 σ pc L [.int v] := by
  by_cases hv : v = 0 ∨ v = 1
  case neg => rw [mm_rz, if_neg hv] at h; exact nomatch h
  rw [mm_rz, if_pos hv] at h
  obtain ⟨rfl, rfl⟩ : .inr (some (.int v)) = o ∧ σ = q := ⟨congrArg Prod.fst (Option.some.inj h), congrArg Prod.snd (Option.some.inj h)⟩
  obtain ⟨p, l, e, R, s, m, args, below, meth, c, Q, c0, s0⟩ := Γ
  obtain ⟨hx, hb, hml, hown, hts, hK, hR, hlk, hz, hst, hU, hN⟩ := G
  obtain ⟨rfl, hr, hex, hc, rfl, rfl⟩ := E
  intro H locs ls hl hP hD hS
  exact W.zret hx hb hr (by rcases hv with rfl | rfl <;> decide) (fun t ht hW => ⟨rfl, Wd.of hK hU hN hP hD hS ht hW.alike, hS.F ht⟩) hS.2.2 d hlk
theorem ww_lret {v : Int64} (G : Good K Γ cc own nL fr lo) (E : Ends K Γ (some .long) o q) (d : decode cc pc = .ok (.lreturn, 1)) (h : mm_rj v σ = some (o, q)) : WW K Γ 0 σ pc L [.long v] := by
  obtain ⟨rfl, rfl⟩ : .inr (some (.long v)) = o ∧ σ = q := ⟨congrArg Prod.fst (Option.some.inj h), congrArg Prod.snd (Option.some.inj h)⟩
  obtain ⟨p, l, e, R, s, m, args, below, meth, c, Q, c0, s0⟩ := Γ
  obtain ⟨hx, hb, hml, hown, hts, hK, hR, hlk, hz, hst, hU, hN⟩ := G
  obtain ⟨rfl, hr, hex, hc, rfl, rfl⟩ := E
  intro H locs ls hl hP hD hS
  exact W.lret hx hb hr (fun t ht hW => ⟨rfl, Wd.of hK hU hN hP hD hS ht hW.alike, hS.F ht⟩) hS.2.2 d hlk
theorem ww_vret (G : Good K Γ cc own nL fr lo) (E : Ends K Γ none o q) (d : decode cc pc = .ok (.return_, 1)) (h : mm_rv σ = some (o, q)) : WW K Γ 0 σ pc L [] := by
  obtain ⟨rfl, rfl⟩ : .inr none = o ∧ σ = q := ⟨congrArg Prod.fst (Option.some.inj h), congrArg Prod.snd (Option.some.inj h)⟩
  obtain ⟨p, l, e, R, s, m, args, below, meth, c, Q, c0, s0⟩ := Γ
  obtain ⟨hx, hb, hml, hown, hts, hK, hR, hlk, hz, hst, hU, hN⟩ := G
  obtain ⟨rfl, hr, hex, hc, rfl, rfl⟩ := E
  intro H locs ls hl hP hD hS
  exact W.vret hx hb hr (fun t ht hW => ⟨rfl, Wd.of hK hU hN hP hD hS ht hW.alike, hS.F ht⟩) hS.2.2 d hlk
-- behind a call that returns
theorem ran_ret {p : Program} {l : Launch} {e : Env} {R : Room} {s : State} {m : MethodId} {args : Array Value} {below : List Frame} {meth : Method} {c : Code} {H : Heap} {locs : List Loc} {cells slots : Nat} {Q : State → Prop} {ls : Array Slot} {st0 rest : List Value} {a : Array Value} {r : Option Value} {q1 : Mem}
    (hr : va_Run p l e R s m args below meth c H locs cells slots 0 0 (F0 m pc ls st0) rest (QcR K r q1 a) (AK K)) (hS : va_S (AK K) s.heap H locs)
    (kk : ∀ (H1 : Heap) (locs1 : List Loc), va_P K.2.1 vwCl (FL K q1) H1 → va_D (AK K) (FL K q1) → va_S (AK K) s.heap H1 locs1 → W p l e R s m args below meth c H1 locs1 cells slots Q (F0 m (pc + 3) ls (r.toList ++ rest))) :
    W p l e R s m args below meth c H locs cells slots Q (F0 m pc ls st0) := by
  intro T hT X
  obtain ⟨v, st₀, t, T', L, h0, X', hL, e1, e2, ⟨hv, hW, hF⟩, st⟩ := hr T hT X
  cases hv
  obtain ⟨hz, hk⟩ := hF
  rw [h0] at hz hk
  have hS' : va_S (AK K) s.heap T'.heap (locs ++ L) := ⟨Nat.le_trans hS.1 (by rw [e1]; exact hz), fun q h1 h2 => by rw [e1, hk q (Nat.lt_of_lt_of_le h1 hS.1) h2]; exact hS.2.1 q h1 h2, fun q hq => (List.mem_append.mp hq).elim (hS.2.2 q) (hL q)⟩
  obtain ⟨t2, a1, b1⟩ := kk T'.heap (locs ++ L) (by rw [e1]; exact hW.1) hW.2.1 hS' T' rfl X'
  exact ⟨t2, st t2 a1, b1⟩
theorem ww_goR {st0 rest : List Value} {a : Array Value} {r : Option Value} {q1 : Mem} (hr : match Γ with | (p, l, e, R, s, m, args, below, meth, c, Q, c0, s0) => ∀ (H : Heap) (locs : List Loc) (ls : Array Slot), lv_has ls c.maxLocals L → va_P K.2.1 vwCl (FL K σ) H → va_D (AK K) (FL K σ) → va_S (AK K) s.heap H locs → va_Run p l e R s m args below meth c H locs (c0 + 0) (s0 + 6 * 0) 0 0 (F0 m pc ls st0) rest (QcR K r q1 a) (AK K))
    (k : WW K Γ 0 q1 (pc + 3) L (r.toList ++ rest)) : WW K Γ 0 σ pc L st0 := by
  obtain ⟨p, l, e, R, s, m, args, below, meth, c, Q, c0, s0⟩ := Γ
  intro H locs ls hl hP hD hS
  exact ran_ret (hr H locs ls hl hP hD hS) hS (fun H1 locs1 h1 h2 h3 => k H1 locs1 ls hl h1 h2 h3)
theorem ww_callV {As rest : List Value} {i F idx na : Nat} {y : MethodName} {b1 : ByteArray} {mL fr1 lo1 : Nat} {rt1 : Option FieldType} {r : Option Value} {q1 : Mem} (G : Good K Γ cc own nL fr lo) (E : Ends K Γ rt o q) (cs : CsV own idx y b1 mL rt1 na F) (hi : i < cnt F) (hC : Ct (Γ.2.1) K y b1 mL rt1 fr1 lo1 (.ref (aa K F i) :: As) σ (.inr r) q1)
    (hS0 : S = As.reverse ++ .ref (aa K F i) :: rest) (hn : As.length = na) (hw : (rest.map fun v => v.category).sum ≤ 8) (d : decode cc pc = .ok (.invokevirtual idx, 3)) (hR : fr1 + 1 ≤ fr ∧ 8 + (mL + 11) + lo1 ≤ lo) (k : WW K Γ 0 q1 (pc + 3) L (r.toList ++ rest)) : WW K Γ 0 σ pc L S := by
  subst hS0
  refine ww_goR (a := (Value.ref (aa K F i) :: As).toArray) (q1 := q1) (r := r) (rest := rest) ?_ k
  obtain ⟨p, l, e, R, s, m, args, below, meth, c, Q, c0, s0⟩ := Γ
  obtain ⟨hx, hb, hml, hown, hts, hK, hRR, hlk, hz, hst, hU, hN⟩ := G
  obtain ⟨rfl, hrt, hex, hc, rfl, rfl⟩ := E
  obtain ⟨hF, ci, T, N, hcl, hct, hgood, hd⟩ := cs
  intro H locs ls hl hP hD hS
  have hcw : CallW R s args own y.cls idx y b1 mL rt1 (.code y b1 mL rt1 :: wAll) { frames := fr1, cells := 0, slots := 0, locals := lo1 } 0 0 na :=
    cwV na hts hgood rfl rfl rfl ⟨rfl, hd⟩ ⟨Nat.le_trans hR.1 hRR.1, Nat.le_trans hR.2 hRR.2.1⟩
  obtain ⟨fl, e1⟩ := hct K i (σ.1 F i) (σ.2 F i)
  refine va_runV ⟨hx, hb, rfl, hown, hts⟩ (hC hst) hcw ⟨PcO_blind, ?_, fun U hU' hW => ⟨rfl, Wd.of hK hU hN hP hD hS hU' hW.alike⟩⟩ rfl hn hl.1 rfl (lv_room hw) d ⟨Nat.zero_le _, Nat.zero_le _⟩
  exact va_recv (q := (y.cls, T, N)) hK hP hcl ((FL_at hF hi).trans (by show some (_, ctR K F i (σ.1 F i) (σ.2 F i)) = _; rw [e1]))
theorem ww_callS {As rest : List Value} {idx na : Nat} {y : MethodName} {b1 : ByteArray} {mL fr1 lo1 : Nat} {rt1 : Option FieldType} {r : Option Value} {q1 : Mem} (G : Good K Γ cc own nL fr lo) (E : Ends K Γ rt o q) (cs : CsS own idx y b1 mL rt1 na) (hC : Ct (Γ.2.1) K y b1 mL rt1 fr1 lo1 As σ (.inr r) q1)
    (hS0 : S = As.reverse ++ rest) (hn : As.length = na) (hw : (rest.map fun v => v.category).sum ≤ 8) (d : decode cc pc = .ok (.invokestatic idx, 3)) (hR : fr1 + 1 ≤ fr ∧ 8 + (mL + 11) + lo1 ≤ lo) (k : WW K Γ 0 q1 (pc + 3) L (r.toList ++ rest)) : WW K Γ 0 σ pc L S := by
  subst hS0
  refine ww_goR (a := As.toArray) (q1 := q1) (r := r) (rest := rest) ?_ k
  obtain ⟨p, l, e, R, s, m, args, below, meth, c, Q, c0, s0⟩ := Γ
  obtain ⟨hx, hb, hml, hown, hts, hK, hRR, hlk, hz, hst, hU, hN⟩ := G
  obtain ⟨rfl, hrt, hex, hc, rfl, rfl⟩ := E
  intro H locs ls hl hP hD hS
  have hcw : CallB R s args own idx y b1 mL rt1 (.code y b1 mL rt1 :: wAll) { frames := fr1, cells := 0, slots := 0, locals := lo1 } 0 0 na ∧ (Cond.static y).before args s = true :=
    va_cwS na hts cs.1 rfl rfl rfl cs.2 ⟨Nat.le_trans hR.1 hRR.1, Nat.le_trans hR.2 hRR.2.1⟩
  exact va_runS ⟨hx, hb, rfl, hown, hts⟩ (hC hst) hcw ⟨PcO_blind, fun U hU' hW => ⟨rfl, Wd.of hK hU hN hP hD hS hU' hW.alike⟩⟩ rfl hn hl.1 rfl (lv_room hw) d ⟨Nat.zero_le _, Nat.zero_le _⟩
theorem ww_cvI {As rest : List Value} {i F : Nat} {idx na : Nat} {y : MethodName} {b1 : ByteArray} {mL fr1 lo1 : Nat} {rt1 : Option FieldType} {X : RR} {k : Int32 → Mem → RR} (G : Good K Γ cc own nL fr lo) (E : Ends K Γ rt o q) (cs : CsV own idx y b1 mL rt1 na F) (hi : i < cnt F) (hC : ∀ o1 q1, X = some (o1, q1) → Ct (Γ.2.1) K y b1 mL rt1 fr1 lo1 (.ref (aa K F i) :: As) σ o1 q1) (hS0 : S = As.reverse ++ .ref (aa K F i) :: rest) (hn : As.length = na) (hw : (rest.map fun v => v.category).sum ≤ 8) (d : decode cc pc = .ok (.invokevirtual idx, 3)) (hR : fr1 + 1 ≤ fr ∧ 8 + (mL + 11) + lo1 ≤ lo) (h : mm_cI X k = some (o, q)) (kk : ∀ v s, k v s = some (o, q) → WW K Γ 0 s (pc + 3) L (.int v :: rest)) : WW K Γ 0 σ pc L S := by
  unfold mm_cI at h
  split at h
  · exact ww_callV G E cs hi (hC _ _ rfl) hS0 hn hw d hR (kk _ _ h)
  · exact nomatch h
theorem ww_cvJ {As rest : List Value} {i F : Nat} {idx na : Nat} {y : MethodName} {b1 : ByteArray} {mL fr1 lo1 : Nat} {rt1 : Option FieldType} {X : RR} {k : Int64 → Mem → RR} (G : Good K Γ cc own nL fr lo) (E : Ends K Γ rt o q) (cs : CsV own idx y b1 mL rt1 na F) (hi : i < cnt F) (hC : ∀ o1 q1, X = some (o1, q1) → Ct (Γ.2.1) K y b1 mL rt1 fr1 lo1 (.ref (aa K F i) :: As) σ o1 q1) (hS0 : S = As.reverse ++ .ref (aa K F i) :: rest) (hn : As.length = na) (hw : (rest.map fun v => v.category).sum ≤ 8) (d : decode cc pc = .ok (.invokevirtual idx, 3)) (hR : fr1 + 1 ≤ fr ∧ 8 + (mL + 11) + lo1 ≤ lo) (h : mm_cJ X k = some (o, q)) (kk : ∀ v s, k v s = some (o, q) → WW K Γ 0 s (pc + 3) L (.long v :: rest)) : WW K Γ 0 σ pc L S := by
  unfold mm_cJ at h
  split at h
  · exact ww_callV G E cs hi (hC _ _ rfl) hS0 hn hw d hR (kk _ _ h)
  · exact nomatch h
theorem ww_cvV {As rest : List Value} {i F : Nat} {idx na : Nat} {y : MethodName} {b1 : ByteArray} {mL fr1 lo1 : Nat} {rt1 : Option FieldType} {X : RR} {k : Mem → RR} (G : Good K Γ cc own nL fr lo) (E : Ends K Γ rt o q) (cs : CsV own idx y b1 mL rt1 na F) (hi : i < cnt F) (hC : ∀ o1 q1, X = some (o1, q1) → Ct (Γ.2.1) K y b1 mL rt1 fr1 lo1 (.ref (aa K F i) :: As) σ o1 q1) (hS0 : S = As.reverse ++ .ref (aa K F i) :: rest) (hn : As.length = na) (hw : (rest.map fun v => v.category).sum ≤ 8) (d : decode cc pc = .ok (.invokevirtual idx, 3)) (hR : fr1 + 1 ≤ fr ∧ 8 + (mL + 11) + lo1 ≤ lo) (h : mm_cV X k = some (o, q)) (kk : ∀ s, k s = some (o, q) → WW K Γ 0 s (pc + 3) L (rest)) : WW K Γ 0 σ pc L S := by
  unfold mm_cV at h
  split at h
  · exact ww_callV G E cs hi (hC _ _ rfl) hS0 hn hw d hR (kk _ h)
  · exact nomatch h
theorem ww_csI {As rest : List Value} {idx na : Nat} {y : MethodName} {b1 : ByteArray} {mL fr1 lo1 : Nat} {rt1 : Option FieldType} {X : RR} {k : Int32 → Mem → RR} (G : Good K Γ cc own nL fr lo) (E : Ends K Γ rt o q) (cs : CsS own idx y b1 mL rt1 na) (hC : ∀ o1 q1, X = some (o1, q1) → Ct (Γ.2.1) K y b1 mL rt1 fr1 lo1 As σ o1 q1) (hS0 : S = As.reverse ++ rest) (hn : As.length = na) (hw : (rest.map fun v => v.category).sum ≤ 8) (d : decode cc pc = .ok (.invokestatic idx, 3)) (hR : fr1 + 1 ≤ fr ∧ 8 + (mL + 11) + lo1 ≤ lo) (h : mm_cI X k = some (o, q)) (kk : ∀ v s, k v s = some (o, q) → WW K Γ 0 s (pc + 3) L (.int v :: rest)) : WW K Γ 0 σ pc L S := by
  unfold mm_cI at h
  split at h
  · exact ww_callS G E cs (hC _ _ rfl) hS0 hn hw d hR (kk _ _ h)
  · exact nomatch h
theorem ww_csJ {As rest : List Value} {idx na : Nat} {y : MethodName} {b1 : ByteArray} {mL fr1 lo1 : Nat} {rt1 : Option FieldType} {X : RR} {k : Int64 → Mem → RR} (G : Good K Γ cc own nL fr lo) (E : Ends K Γ rt o q) (cs : CsS own idx y b1 mL rt1 na) (hC : ∀ o1 q1, X = some (o1, q1) → Ct (Γ.2.1) K y b1 mL rt1 fr1 lo1 As σ o1 q1) (hS0 : S = As.reverse ++ rest) (hn : As.length = na) (hw : (rest.map fun v => v.category).sum ≤ 8) (d : decode cc pc = .ok (.invokestatic idx, 3)) (hR : fr1 + 1 ≤ fr ∧ 8 + (mL + 11) + lo1 ≤ lo) (h : mm_cJ X k = some (o, q)) (kk : ∀ v s, k v s = some (o, q) → WW K Γ 0 s (pc + 3) L (.long v :: rest)) : WW K Γ 0 σ pc L S := by
  unfold mm_cJ at h
  split at h
  · exact ww_callS G E cs (hC _ _ rfl) hS0 hn hw d hR (kk _ _ h)
  · exact nomatch h
theorem ww_csV {As rest : List Value} {idx na : Nat} {y : MethodName} {b1 : ByteArray} {mL fr1 lo1 : Nat} {rt1 : Option FieldType} {X : RR} {k : Mem → RR} (G : Good K Γ cc own nL fr lo) (E : Ends K Γ rt o q) (cs : CsS own idx y b1 mL rt1 na) (hC : ∀ o1 q1, X = some (o1, q1) → Ct (Γ.2.1) K y b1 mL rt1 fr1 lo1 As σ o1 q1) (hS0 : S = As.reverse ++ rest) (hn : As.length = na) (hw : (rest.map fun v => v.category).sum ≤ 8) (d : decode cc pc = .ok (.invokestatic idx, 3)) (hR : fr1 + 1 ≤ fr ∧ 8 + (mL + 11) + lo1 ≤ lo) (h : mm_cV X k = some (o, q)) (kk : ∀ s, k s = some (o, q) → WW K Γ 0 s (pc + 3) L (rest)) : WW K Γ 0 σ pc L S := by
  unfold mm_cV at h
  split at h
  · exact ww_callS G E cs (hC _ _ rfl) hS0 hn hw d hR (kk _ h)
  · exact nomatch h
-- where a method stands now is a start like its own: nothing written, nothing made
theorem st_base {p : Program} {l : Launch} {e : Env} {R : Room} {s : State} {m : MethodId} {args : Array Value} {below : List Frame} {meth : Method} {c : Code} {T : State} {locs : List Loc} (X : Stand p l e R s m args below meth c T locs 0 0) :
    Stand p l e R ({ s with heap := T.heap, slotsUsed := T.slotsUsed } : State) m args below meth c T [] 0 0 := by
  have hu := X.used
  have hh := X.heapSize
  have hbk := X.book
  refine ⟨X.admits, X.cas, X.clock, X.frames, ?_, X.hears, X.method, X.code, X.here, X.tail, X.warmed, X.limits, X.bytes, ?_⟩
  · have hr := X.room
    unfold State.hasRoom at hr ⊢
    simp only [Bool.and_eq_true, decide_eq_true_eq] at hr ⊢
    obtain ⟨⟨⟨⟨a1, a2⟩, a3⟩, a4⟩, a5⟩ := hr
    refine ⟨⟨⟨⟨a1, a2⟩, ?_⟩, ?_⟩, hbk⟩
    · show T.heap.size + R.cells ≤ _
      omega
    · show T.slotsUsed + R.slots ≤ _
      omega
  · have hd : T.heap.toList.drop T.heap.size = [] := List.drop_eq_nil_of_le (by simp)
    refine ⟨X.same.1, Nat.le_refl _, Nat.le_refl _, ?_, ?_, fun a c0 h => ⟨c0, h, rfl, rfl, fun _ _ => rfl⟩⟩
    · show T.slotsUsed = T.slotsUsed + ((T.heap.toList.drop T.heap.size).map (·.slots.size)).sum
      rw [hd]; rfl
    · show ((T.heap.toList.drop T.heap.size).map (·.slots.size)).sum ≤ 0
      rw [hd]; exact Nat.le_refl _
-- what lies in none of the places is as it was
theorem sb_kept {s t : State} {locs : List Loc} {k n : Nat} (h : s.sameButNew t locs k n) : s.heap.size ≤ t.heap.size ∧ ∀ a : Nat, a < s.heap.size → (∀ z ∈ locs, z.base ≠ a) → t.heap[a]? = s.heap[a]? := by
  refine ⟨h.2.1, fun a ha hz => ?_⟩
  obtain ⟨c1, e1, e2, e3, e4⟩ := h.2.2.2.2.2 a _ (Array.getElem?_eq_getElem ha)
  have es : c1.slots = (s.heap[a]).slots := Array.ext_getElem? fun i => e4 i fun hm => hz _ hm rfl
  rw [es] at e2
  rw [e1, e2, Array.getElem?_eq_getElem ha]
theorem sta_lays {args : Array Value} {A : Nat → Prop} {U : State} {n d : String} (h : Sta A U U.heap n d) : (Cond.laysStatic Bundle.tN n d).before args U = true := by
  obtain ⟨c, k, i, f, a, cell, v, h1, h2, h3, h4, h5, h6, h7, h8, h9, h10, h11, h12⟩ := h
  exact Cond.laysStatic_of h1 h2 h3 h4 h6 h7 h8 h9 h5
theorem sta_ref {args : Array Value} {A : Nat → Prop} {U : State} {n d : String} (h : Sta A U U.heap n d) : (Cond.isRef (.static Bundle.tN n d)).before args U = true := by
  obtain ⟨c, k, i, f, a, cell, v, h1, h2, h3, h4, h5, h6, h7, h8, h9, h10, h11, h12⟩ := h
  have hv : (Term.static Bundle.tN n d).eval args U none [] U = some v := by
    simp [Term.eval, State.fieldNamed?, h2, h3, h4, h6, h7, h10]
  cases v <;> simp [Value.isRef] at h11 <;> simp [Cond.before, Cond.holds, Cond.value, hv]
-- a call that throws: what lies over the caller's frame
theorem thr_back {p : Program} {l : Launch} {e : Env} {R : Room} {s : State} {m : MethodId} {args : Array Value} {below : List Frame} {meth : Method} {c : Code} {U : State} {locs : List Loc} {cells slots : Nat} {y : MethodName} {b1 : ByteArray} {mL fr1 lo1 e1 : Nat} {rt1 : Option FieldType} {av : List Value} {q1 : Mem} {ig : Instr} {len : Nat} {mk : MethodId} {g : JFrame}
    (X : Stand p l e R s m args below meth c U locs cells slots) (hM : MetFree l y (headSpec (.code y b1 mL rt1 :: wAll) { frames := fr1, cells := 1, slots := 6, locals := lo1 }) (PcO K av σ) (fun _ _ _ _ _ => True) (fun _ st oc t => TqO K e1 q1 st oc t))
    (hws : ∀ w ∈ (.code y b1 mL rt1 :: wAll : List Cond), ∀ (a' : Array Value) (V : State), s.WarmedH V.vm → w.before a' V = true) (hini : (Cond.initialized y.cls) ∈ wAll)
    (hg : g.method = m) (hsize : g.locals.size = c.maxLocals) (hdg : decode c.code g.pc = .ok (ig, len)) (hw : 2 * g.monitorRoom + (g.stack.map fun v => v.category).sum ≤ 8) (hn : U.methodNamed? y = some mk) (hW : Wd K σ U)
    (hR : fr1 + 1 ≤ R.frames ∧ 8 + (mL + 11) + lo1 ≤ R.locals) (hcells : cells + 1 ≤ R.cells ∧ slots + 6 ≤ R.slots) :
    ∃ (x : Addr) (ce : Cell) (B : State) (L : List Loc), Stand p l e R s m args below meth c B (locs ++ L) (cells + 1) (slots + 6) ∧ Steps p.tables e below (doInvoke e (U.setTop g) [] mk av.toArray).1 ((B.setTop g).pushFrame (.throwing x)) ∧ B.heap[x]? = some ce ∧ ce.vm = .none ∧ s.vm.findClass (exn e1) = some ce.cls ∧ Wd K q1 B ∧ va_F (AK K) U B ∧ ∀ z ∈ L, AK K z.base := by
  have h2 := hws _ List.mem_cons_self av.toArray U X.warmed
  have h3 := hws _ (List.mem_cons_of_mem _ hini) av.toArray U X.warmed
  obtain ⟨methY, cY, hmY, hcY, -, hlY, -, -, -, -⟩ := Cond.code_spec hn h2
  obtain ⟨kY, hkY, -⟩ := className_of_methodNamed hn
  have hinitY : kY.init = .initialized := Cond.initialized_spec (findClass_of_methodNamed hn) hkY h3
  have h : At U g.method c below := by rw [hg]; exact X.here
  have happ : (headSpec (.code y b1 mL rt1 :: wAll) { frames := fr1, cells := 1, slots := 6, locals := lo1 }).appliesLoose y e.platform (U.calling g mk av.toArray) = true :=
    Spec.appliesLoose_calling (g := g) h hdg hn hkY hinitY (X.room_calling (g := g) (R' := { frames := fr1, cells := 1, slots := 6, locals := lo1 }) hsize hmY hcY hR.1 (by have := hR.2; rw [hlY]; show _ + _ + (mL + 11) + lo1 ≤ _; omega) hcells.1 hcells.2) (atoms_intro fun w hw' => hws w hw' _ _ X.warmed)
  obtain ⟨mid, hmid⟩ := h.above
  have hfr : (U.setTop g).frames = (.java g :: mid) ++ below := by rw [State.frames_setTop' g h.top, hmid]; rfl
  obtain ⟨oc, s₂, hsteps, -, hend, hq⟩ := Steps.callFree hM p X.admits X.cas X.clock (acts := []) hfr happ ⟨rfl, hW.moved rfl (Vm.Alike.refl U.vm)⟩ trivial
  obtain ⟨x, ce, L, rfl, hce, hcv, hcl, hWd, hF, hW₂, hsm, hL⟩ := (hq : TqO K e1 q1 (U.calling g mk av.toArray) oc s₂)
  rw [State.frames_setTop' g h.top] at hend
  have hf₂ : s₂.frames = .throwing x :: .java g :: U.frames.tail := hend
  obtain ⟨g₀, hg0⟩ := Option.isSome_iff_exists.mp h.top
  obtain ⟨r, hr⟩ := State.topJava?_eq_some.mp hg0
  have hr' : (({ U with heap := s₂.heap, slotsUsed := s₂.slotsUsed } : State).setVm s₂.vm).frames = .java g₀ :: r := hr
  have e3 : s₂ = ({ (U.calling g mk av.toArray).setFrames s₂.frames with heap := s₂.heap, slotsUsed := s₂.slotsUsed } : State).setVm s₂.vm := by
    have e4 : s₂ = ({ s₂ with vm := (U.calling g mk av.toArray).vm } : State).setVm s₂.vm := rfl
    have hsm' : (U.calling g mk av.toArray).sameButNew ({ s₂ with vm := (U.calling g mk av.toArray).vm } : State) L 1 6 := hsm
    rw [hsm'.1] at e4
    exact e4
  have hs₂ : s₂ = ((({ U with heap := s₂.heap, slotsUsed := s₂.slotsUsed } : State).setVm s₂.vm).setTop g).pushFrame (.throwing x) := by
    rw [State.pushFrame, State.frames_setTop _ hr', State.setTop_of_frames _ hr', State.setFrames_setFrames]
    refine e3.trans ?_
    rw [hf₂, State.calling_eq h.top, State.setFrames_setFrames, hr]
    rfl
  have hW' : U.WarmedH s₂.vm := hW₂
  have hsame : U.sameButNew ({ U with heap := s₂.heap, slotsUsed := s₂.slotsUsed } : State) L 1 6 := by
    refine ⟨?_, hsm.2⟩
    obtain ⟨th, ht, -⟩ := State.frames_cons hr
    show ({ U with heap := s₂.heap, slotsUsed := s₂.slotsUsed } : State) = { U.setFrames U.frames with heap := s₂.heap, slotsUsed := s₂.slotsUsed }
    rw [State.setFrames_self ht]
  subst hg
  refine ⟨x, ce, ({ U with heap := s₂.heap, slotsUsed := s₂.slotsUsed } : State).setVm s₂.vm, L,
    ⟨X.admits, X.cas, X.clock, X.frames, X.room, X.hears, X.method, X.code, (X.here.setHeapUsed s₂.heap s₂.slotsUsed).setVm hW'.alike, X.tail, State.WarmedH.trans X.warmed hW', X.limits, X.bytes, X.same.trans (hsame.setVm s.vm)⟩, ?_, hce, hcv, ?_, hWd.moved rfl (Vm.Alike.refl _), hF, hL⟩
  · rw [← hs₂]; exact hsteps
  · have h9 : U.vm.findClass (exn e1) = some ce.cls := hcl
    rw [X.warmed.alike.findClass] at h9
    exact h9
-- .. and nobody here catches it
theorem ww_callT {As rest : List Value} {idx na : Nat} {y : MethodName} {b1 : ByteArray} {mL fr1 lo1 e1 : Nat} {rt1 : Option FieldType} {q1 : Mem} (G : Good K Γ cc own nL fr lo) (E : Ends K Γ rt (.inl e1) q1) (cs : CsS own idx y b1 mL rt1 na) (hC : Ct (Γ.2.1) K y b1 mL rt1 fr1 lo1 As σ (.inl e1) q1)
    (hS0 : S = As.reverse ++ rest) (hn : As.length = na) (hw : (rest.map fun v => v.category).sum ≤ 8) (d : decode cc pc = .ok (.invokestatic idx, 3)) (hR : fr1 + 1 ≤ fr ∧ 8 + (mL + 11) + lo1 ≤ lo) : WW K Γ 0 σ pc L S := by
  subst hS0
  obtain ⟨p, l, e, R, s, m, args, below, meth, c, Q, c0, s0⟩ := Γ
  obtain ⟨hx, hb, hml, hown, hts, hK, hRR, hlk, hz, hst, hU, hN⟩ := G
  obtain ⟨rfl, hrt, hex, hc, rfl, rfl⟩ := E
  obtain ⟨hc1, hc2⟩ := hc e1 rfl
  intro H locs ls hl hP hD hS T hT X0
  have X : Stand p l e R s m args below meth c T locs 0 0 := X0
  subst hb
  have hgo := cs.1
  have hmem : ∀ w ∈ va_wsS own idx y (.code y b1 mL rt1 :: wAll), w.before args s = true := fun w h => hts w (hgo w h).1
  have hcode : (Cond.code y b1 mL rt1).before args s = true := hmem _ (by simp [va_wsS])
  obtain ⟨mk, hnamed⟩ := Cond.code_named hcode
  obtain ⟨methM, cM, hmethM, -, -, -, -, -, -, hsigM⟩ := Cond.code_spec hnamed hcode
  have hstatic : methM.isStatic = true := Cond.static_spec hnamed hmethM (hmem _ (by simp [va_wsS]))
  obtain ⟨kP, hkP, -⟩ := className_of_methodNamed hnamed
  have hinitP : kP.init = .initialized := Cond.initialized_spec (findClass_of_methodNamed hnamed) hkP (hmem _ (by simp [va_wsS]))
  have hlen : As.length = methM.sig.parameters.length := by
    have h9 := cs.2.2.2
    rw [hsigM] at h9
    rw [hn]; exact (Option.some.inj h9).symm
  obtain ⟨vm₁, X₁, hstep₁⟩ := X.invokestatic hx hown (hmem _ (by simp [va_wsS])) hnamed hmethM hstatic hkP hinitP ⟨cs.2.1, cs.2.2.1⟩ (g := F0 m pc ls (As.reverse ++ rest)) rfl (argsL := As) (rest := rest) hlen rfl d
  have hWd : Wd K σ (T.setVm vm₁) := Wd.of hK hU hN hP hD hS hT X₁.warmed.alike
  obtain ⟨x, ce, B, L1, X2, hst2, hce, hcv, hcl, hWB, hF, hL1⟩ := thr_back X₁ (hC hst) (pay_in hts fun w h => hgo w (by simp [va_wsS] at h ⊢; rcases h with h | h <;> simp [h])) (hgo _ (by simp [va_wsS])).1 (g := F0 m pc ls rest) rfl hl.1 d (lv_room hw) (X₁.named hnamed) hWd ⟨Nat.le_trans hR.1 hRR.1, Nat.le_trans hR.2 hRR.2.1⟩ ⟨by omega, by omega⟩
  obtain ⟨hz1, hk1⟩ := hF
  have hTH : (T.setVm vm₁).heap = H := hT
  rw [hTH] at hz1 hk1
  have hS' : va_S (AK K) s.heap B.heap (locs ++ L1) := ⟨Nat.le_trans hS.1 hz1, fun a h1 h2 => (hk1 a (Nat.lt_of_lt_of_le h1 hS.1) h2).trans (hS.2.1 a h1 h2), fun z hz => (List.mem_append.mp hz).elim (hS.2.2 z) (hL1 z)⟩
  obtain ⟨st3, hrun, hend, hW3, hsm3⟩ := X2.leaveThrown x (g := F0 m pc ls rest) rfl rfl rfl (hex _) hlk
  refine ⟨_, hstep₁ _ fun acts => ?_, .threw x, hrun, hend, x, ce, locs ++ L1, rfl, hce, hcv, hcl, hWB.moved rfl (Vm.Alike.refl _), hS'.F rfl, hW3, hsm3, hS'.2.2⟩
  rw [doInvoke_state]
  exact hst2.trans st3
theorem ww_tsV {As rest : List Value} {idx na : Nat} {y : MethodName} {b1 : ByteArray} {mL fr1 lo1 : Nat} {rt1 : Option FieldType} {X : RR} {k : Mem → RR} (G : Good K Γ cc own nL fr lo) (E : Ends K Γ rt o q) (cs : CsS own idx y b1 mL rt1 na) (hC : ∀ o1 q1, X = some (o1, q1) → Ct (Γ.2.1) K y b1 mL rt1 fr1 lo1 As σ o1 q1) (hS0 : S = As.reverse ++ rest) (hn : As.length = na) (hw : (rest.map fun v => v.category).sum ≤ 8) (d : decode cc pc = .ok (.invokestatic idx, 3)) (hR : fr1 + 1 ≤ fr ∧ 8 + (mL + 11) + lo1 ≤ lo) (h : mm_tV X k = some (o, q)) (kk : ∀ s, k s = some (o, q) → WW K Γ 0 s (pc + 3) L (rest)) : WW K Γ 0 σ pc L S := by
  unfold mm_tV at h
  split at h
  · exact ww_callS G E cs (hC _ _ rfl) hS0 hn hw d hR (kk _ h)
  · obtain ⟨rfl, rfl⟩ : _ = o ∧ _ = q := ⟨congrArg Prod.fst (Option.some.inj h), congrArg Prod.snd (Option.some.inj h)⟩
    exact ww_callT G E cs (hC _ _ rfl) hS0 hn hw d hR
  · exact nomatch h
theorem ww_thr {cls : String} {ik ic e1 : Nat} (G : Good K Γ cc own nL fr lo) (E : Ends K Γ rt o q) (xs : Xs own ik ic cls e1) (d0 : decode cc pc = .ok (.new ik, 3)) (d3 : decode cc (pc + 3) = .ok (.dup, 1)) (d4 : decode cc (pc + 4) = .ok (.invokespecial ic, 3)) (d7 : decode cc (pc + 7) = .ok (.athrow, 1)) (hf : 6 ≤ fr ∧ 89 ≤ lo) (hw : (S.map fun v => v.category).sum ≤ 8) (h : mm_th e1 σ = some (o, q)) : WW K Γ 0 σ pc L S := by
  obtain ⟨rfl, rfl⟩ : .inl e1 = o ∧ σ = q := ⟨congrArg Prod.fst (Option.some.inj h), congrArg Prod.snd (Option.some.inj h)⟩
  obtain ⟨rfl, xk, xi, xf, xw, xo, xh⟩ := xs
  obtain ⟨p, l, e, R, s, m, args, below, meth, c, Q, c0, s0⟩ := Γ
  obtain ⟨hx, hb, hml, hown, hts, hK, hR, hlk, hz, hst, hU, hN⟩ := G
  obtain ⟨rfl, hrt, hex, hc, rfl, rfl⟩ := E
  obtain ⟨hc1, hc2⟩ := hc e1 rfl
  intro H locs ls hl hP hD hS T hT X0
  have X : Stand p l e R s m args below meth c T locs 0 0 := X0
  subst hT
  subst hb
  have Y := st_base X
  have htab : ∀ w, w.onTables = true → w ∈ wAll → w.before args ({ s with heap := T.heap, slotsUsed := T.slotsUsed } : State) = true := fun w h1 h2 => va_tabs (u := s) h1 rfl (hts w h2)
  have hUs : StU K ({ s with heap := T.heap, slotsUsed := T.slotsUsed } : State) T.heap := Sta.kept hU hS.2.1
  have hNs : StN K ({ s with heap := T.heap, slotsUsed := T.slotsUsed } : State) T.heap := StN.moved (U := s) (StN.kept hN hS.2.1) (Vm.Alike.refl _)
  have hat : ∀ w ∈ Bundle.ownAtoms0 own ic (exn e1) xs_up, w.before args ({ s with heap := T.heap, slotsUsed := T.slotsUsed } : State) = true := by
    intro w hw
    by_cases hh : xs_nh w = true
    · have hm : w ∈ (Bundle.ownAtoms0 own ic (exn e1) xs_up).filter xs_nh := List.mem_filter.mpr ⟨hw, hh⟩
      exact htab w (List.all_eq_true.mp xo w hm) (xw w hm)
    · have hm : w ∈ (Bundle.ownAtoms0 own ic (exn e1) xs_up).filter (fun w => !xs_nh w) := List.mem_filter.mpr ⟨hw, by simpa using hh⟩
      rw [xh] at hm
      simp only [List.mem_cons, List.not_mem_nil, or_false] at hm
      have hnw : ∀ w ∈ xs_nw, w.onTables = true → w.before args ({ s with heap := T.heap, slotsUsed := T.slotsUsed } : State) = true := fun w h1 h2 => va_tabs (u := s) h2 rfl (hN.2.1 w h1)
      rcases hm with rfl | rfl | rfl | rfl | rfl | rfl | rfl | rfl
      · exact sta_lays hUs
      · exact sta_lays hNs.1
      · exact hnw _ (by simp [xs_nw]) rfl
      · exact hnw _ (by simp [xs_nw]) rfl
      · exact hnw _ (by simp [xs_nw]) rfl
      · exact hnw _ xf.2 rfl
      · exact sta_ref hUs
      · exact sta_ref hNs.1
  have hins : (Cond.instantiable (exn e1) 6).before args ({ s with heap := T.heap, slotsUsed := T.slotsUsed } : State) = true := hat _ (by simp [Bundle.ownAtoms0])
  have hown' : ({ s with heap := T.heap, slotsUsed := T.slotsUsed } : State).vm.findClass own = some m.cls := hown
  obtain ⟨vm₁, cX, kX, hfX, hkX, -, -, X₁, st1⟩ := Y.newCold hx (own := own) (C := exn e1) (index := ik) (n := 6) hown' (htab _ (by rfl) xk) hins (htab _ (by rfl) xi)
    (g := F0 m pc ls S) rfl d0 (by omega) (by omega)
  have htr : e.platform.stackTraces = false := by rw [Example.NoTraceControls.admits_follows X.admits]; exact hst
  have hcellA : ((T.setVm vm₁).pushCell { cls := cX, slots := kX.instanceTypes.map defaultValue, vm := .none }).heap[T.heap.size]? = some (freshCell cX kX) := State.heap_pushCell_size _ _
  generalize hT1 : (T.setVm vm₁).pushCell { cls := cX, slots := kX.instanceTypes.map defaultValue, vm := .none } = T1 at X₁ st1 hcellA
  obtain ⟨U, hsteps, hrun, hend, hW, hsame, ce, hce, OC⟩ := X₁.ctorThrow0 hx htr (own := own) (cls := exn e1) (names := xs_up) (ic := ic) hown' xf.1 (by decide +kernel) hat (fun y hy => by cases hy) hfX hkX hcellA (Nat.le_refl _)
    (g := F0 m (pc + 4) ls (.ref T.heap.size :: .ref T.heap.size :: S)) rfl hl.1 rfl rfl (rest := S) rfl d4 d7 (hex _) (by have := hR.1; have := hf.1; show 2 + 3 < R.frames; omega)
    (by
      have h1 := hR.2.1
      have h2 := hf.2
      show 2 * 0 + (1 + (S.map fun v => v.category).sum) + (13 * (2 + 1) + 41) ≤ R.locals
      omega) hlk
  have hva : (Value.ref T.heap.size).category = 1 := rfl
  have hkp := sb_kept hsame
  have hk1 : ∀ a : Nat, a < T.heap.size → U.heap[a]? = T.heap[a]? := fun a ha => hkp.2 a ha (fun z hz => by cases hz)
  have hS' : va_S (AK K) s.heap U.heap locs := ⟨Nat.le_trans hS.1 hkp.1, fun a h1 h2 => (hk1 a (Nat.lt_of_lt_of_le h1 hS.1)).trans (hS.2.1 a h1 h2), hS.2.2⟩
  have hP' : va_P K.2.1 vwCl (FL K σ) U.heap := hP.kept fun k z hkz => hk1 _ ((hP k z hkz).lt)
  have hW' : s.WarmedH U.vm := hW
  refine ⟨U, st1 _ ?_, .threw T.heap.size, hrun, hend, T.heap.size, ce, locs, rfl, hce, OC.vm, OC.cls, Wd.of hK hU hN hP' hD hS' rfl hW'.alike, hS'.F rfl, hW', ?_, hS.2.2⟩
  · jvm_step X₁.here [X₁.here.top, hx, d3, hva]
    exact hsteps
  · have e1 := hsame.1
    have e2 := X.same.1
    have h2 : (T.setVm s.vm).sameButNew ({ U with vm := s.vm } : State) [] 1 6 := by
      refine ⟨?_, hsame.2⟩
      refine e1.trans ?_
      rw [e2]
      show _ = ({ (s.setFrames (T.setVm s.vm).frames).setFrames U.frames with heap := U.heap, slotsUsed := U.slotsUsed } : State)
      rw [State.setFrames_setFrames]
      rfl
    have h3 := X.same.trans h2
    rw [List.append_nil] at h3
    exact h3
theorem ww_acopy {F i N F2 i2 N2 idx : Nat} {sp dp w : Int32} {k : Mem → RR} (G : Good K Γ cc own nL fr lo) (ac : Ac own idx) (a1 : ArJ F N) (h1 : i < cnt F) (a2 : ArJ F2 N2) (h2 : i2 < cnt F2) (hf : 1 ≤ fr ∧ (S.map fun v => v.category).sum + (nativeFrameWords "java/lang/System" "arraycopy" 5 + 11) ≤ lo) (d : decode cc pc = .ok (.invokestatic idx, 3)) (h : mm_cp σ F i N sp F2 i2 N2 dp w k = some (o, q)) (kk : ∀ s, k s = some (o, q) → WW K Γ 0 s (pc + 3) L S) : WW K Γ 0 σ pc L (.int w :: .int dp :: .ref (aa K F2 i2) :: .int sp :: .ref (aa K F i) :: S) := by
  unfold mm_cp at h
  split at h
  · exact nomatch h
  rename_i hb9
  have g1 : ¬ sp < 0 := fun z => hb9 (Or.inl z)
  have g2 : ¬ dp < 0 := fun z => hb9 (Or.inr (Or.inl z))
  have g3 : ¬ w < 0 := fun z => hb9 (Or.inr (Or.inr (Or.inl z)))
  have g4 : sp.toNatClampNeg + w.toNatClampNeg ≤ N := Decidable.not_not.mp fun z => hb9 (Or.inr (Or.inr (Or.inr (Or.inl z))))
  have g5 : dp.toNatClampNeg + w.toNatClampNeg ≤ N2 := Decidable.not_not.mp fun z => hb9 (Or.inr (Or.inr (Or.inr (Or.inr z))))
  have k := kk _ h
  obtain ⟨p, l, e, R, s, m, args, below, meth, c, Q, c0, s0⟩ := Γ
  obtain ⟨hx, hb, hml, hown, hts, hK, hR, hlk, hz, hst, hU, hN⟩ := G
  intro H locs ls hl hP hD hS
  refine va_copyl hx hb hl.1.symm hown (hts _ ac.1) (hts _ ac.2.1) (hts _ ac.2.2.1) (hts _ ac.2.2.2) hK hP hD hS (tb_pos F i) (tb_pos F2 i2) 1 1 ((FL_at a1.1 h1).trans (by show some (_, ctR K F i (σ.1 F i) (σ.2 F i)) = _; rw [a1.2])) ((FL_at a2.1 h2).trans (by show some (_, ctR K F2 i2 (σ.1 F2 i2) (σ.2 F2 i2)) = _; rw [a2.2])) rfl rfl rfl g1 g2 g3 g4 g5 (fun _ _ => rfl) (Nat.le_trans hf.1 hR.1) (by have := hR.2.1; have := hf.2; omega) d (fun H1 locs1 hP1 hD1 hS1 => ?_)
  have hoth : ∀ F' i', ¬ (F' = F2 ∧ i' = i2) → ct K (σ.1, fun F' i' k' => if F' = F2 ∧ i' = i2 then va_cpy (σ.2 F i) (σ.2 F2 i2) sp.toNatClampNeg dp.toNatClampNeg w.toNatClampNeg k' else σ.2 F' i' k') F' i' = ct K σ F' i' := by
    intro F' i' hne'
    show ctR K F' i' (σ.1 F' i') (fun k' => if F' = F2 ∧ i' = i2 then _ else σ.2 F' i' k') = ctR K F' i' (σ.1 F' i') (σ.2 F' i')
    congr 1
    funext k'
    exact if_neg hne'
  have hsame : ct K (σ.1, fun F' i' k' => if F' = F2 ∧ i' = i2 then va_cpy (σ.2 F i) (σ.2 F2 i2) sp.toNatClampNeg dp.toNatClampNeg w.toNatClampNeg k' else σ.2 F' i' k') F2 i2 = .inl (K.2.2.1 1, N2, .inr (.inl (va_cpy (σ.2 F i) (σ.2 F2 i2) sp.toNatClampNeg dp.toNatClampNeg w.toNatClampNeg))) := by
    have e9 : (fun k' => if F2 = F2 ∧ i2 = i2 then va_cpy (σ.2 F i) (σ.2 F2 i2) sp.toNatClampNeg dp.toNatClampNeg w.toNatClampNeg k' else σ.2 F2 i2 k') = va_cpy (σ.2 F i) (σ.2 F2 i2) sp.toNatClampNeg dp.toNatClampNeg w.toNatClampNeg := by
      funext k'
      exact if_pos ⟨rfl, rfl⟩
    show ctR K F2 i2 (σ.1 F2 i2) (fun k' => if F2 = F2 ∧ i2 = i2 then _ else σ.2 F2 i2 k') = _
    rw [e9, a2.2]
  have e1 := FL_set (K := K) (σ := σ) a2.1 h2 hoth hsame
  rw [e1] at hP1 hD1
  exact k H1 locs1 ls hl hP1 hD1 hS1
-- the library's own
theorem ww_mmax {x y : Int32} {idx : Nat} (G : Good K Γ cc own nL fr lo) (mx : Mx own idx Lib.Math.max.name Lib.Math.max.code) (hf : 1 ≤ fr ∧ 21 ≤ lo) (hw : (S.map fun v => v.category).sum ≤ 8) (d : decode cc pc = .ok (.invokestatic idx, 3)) (k : WW K Γ 0 σ (pc + 3) L (.int (mm_max x y) :: S)) : WW K Γ 0 σ pc L (.int y :: .int x :: S) := by
  obtain ⟨p, l, e, R, s, m, args, below, meth, c, Q, c0, s0⟩ := Γ
  obtain ⟨hx, hb, hml, hown, hts, hK, hR, hlk, hz, hst, hU, hN⟩ := G
  intro H locs ls hl hP hD hS
  exact va_mmax hx hb hl.1.symm hown (hts _ mx.1) (hts _ mx.2.1) (hts _ mx.2.2.1) (hts _ mx.2.2.2) (Nat.le_trans hf.1 hR.1) (by have := hR.2.1; omega) hR.2.2.1 hR.2.2.2 d (k H locs ls hl hP hD hS)
theorem ww_mmin {x y : Int32} {idx : Nat} (G : Good K Γ cc own nL fr lo) (mx : Mx own idx Lib.Math.min.name Lib.Math.min.code) (hf : 1 ≤ fr ∧ 21 ≤ lo) (hw : (S.map fun v => v.category).sum ≤ 8) (d : decode cc pc = .ok (.invokestatic idx, 3)) (k : WW K Γ 0 σ (pc + 3) L (.int (mm_min x y) :: S)) : WW K Γ 0 σ pc L (.int y :: .int x :: S) := by
  obtain ⟨p, l, e, R, s, m, args, below, meth, c, Q, c0, s0⟩ := Γ
  obtain ⟨hx, hb, hml, hown, hts, hK, hR, hlk, hz, hst, hU, hN⟩ := G
  intro H locs ls hl hP hD hS
  exact va_mmin hx hb hl.1.symm hown (hts _ mx.1) (hts _ mx.2.1) (hts _ mx.2.2.1) (hts _ mx.2.2.2) (Nat.le_trans hf.1 hR.1) (by have := hR.2.1; omega) hR.2.2.1 hR.2.2.2 d (k H locs ls hl hP hD hS)
end VCalls

section VHelp
variable {K : KK} {Γ : Cx} {cc : ByteArray} {own : String} {nL fr lo n : Nat} {σ : Mem} {pc : Nat} {L : List (Nat × Value)} {S : List Value} {q : Mem} {r : Int32}
def mm_xI (a : RR) (k : Int32 → Mem → RR) (kx : Nat → Mem → RR) : RR := match a with
  | some (.inr (some (.int v)), σ) => k v σ
  | some (.inl e, σ) => kx e σ
  | _ => none
def mm_xV (a : RR) (k : Mem → RR) (kx : Nat → Mem → RR) : RR := match a with
  | some (.inr none, σ) => k σ
  | some (.inl e, σ) => kx e σ
  | _ => none
def mm_h1 (e1 : Nat) (A : Mem → RR) : Nat → Mem → RR := fun e σ => if e = e1 then A σ else none
def mm_h2 (e1 e2 : Nat) (A B : Mem → RR) : Nat → Mem → RR := fun e σ => if e = e1 then A σ else if e = e2 then B σ else none
-- one row of a table, its class linked on the way
theorem hn_row {Q : Handler → Pre} {E : CtlPost} {e : Env} {d : Bool} {acts : List Action} {s : State} {f : JFrame} {a : Addr} {x : ExceptionTableEntry} {t : List ExceptionTableEntry} {c : ClassId} {cell : Cell} (hx : covers x f.pc = true) (h0 : x.catchType ≠ 0)
    (hl : s.vm.ClassLinks e.platform f.method.cls x.catchType c) (hcell : s.heap[a]? = some cell) (hobj : ∀ k, cell.vm ≠ .statics k) (hk : ∃ k, s.vm.classes[cell.cls]? = some k) (hc : ∃ k, s.vm.classes[c]? = some k) :
    wp (findHandler.go f a (x :: t)) Q E e d acts s ↔ if s.vm.assignable cell.cls c = true then Q (.found x.handlerPc) d acts (s.setVm (s.vm.noted f.method.cls x.catchType (.cls c))) else wp (findHandler.go f a t) Q E e d acts (s.setVm (s.vm.noted f.method.cls x.catchType (.cls c))) := by
  simp only [covers] at hx
  obtain ⟨h1, h2⟩ := (resolveClass_links e.toSetting hl).op (op := VmOp.resolveClass f.method.cls x.catchType) rfl
  have hal : s.vm.Alike (s.vm.noted f.method.cls x.catchType (.cls c)) := (Vm.Alike.refl s.vm).noted _ _ _
  obtain ⟨ka, hka⟩ := hk
  obtain ⟨kb, hkb⟩ := hc
  obtain ⟨ka', hka', -⟩ := hal.2.2 _ _ hka
  obtain ⟨kb', hkb', -⟩ := hal.2.2 _ _ hkb
  by_cases hf : s.vm.assignable cell.cls c = true
  · have hf' : (s.vm.noted f.method.cls x.catchType (.cls c)).assignable cell.cls c = true := by rw [hal.assignable]; exact hf
    rw [if_pos hf]
    simp [findHandler.go, hx, h0, h1, h2, hcell, hobj, hka', hkb', hf', VmOp.dirties, VmOp.acts]
  · have hf' : (s.vm.noted f.method.cls x.catchType (.cls c)).assignable cell.cls c = false := by rw [hal.assignable]; exact Bool.eq_false_iff.mpr hf
    rw [if_neg hf]
    simp [findHandler.go, hx, h0, h1, h2, hcell, hobj, hka', hkb', hf', VmOp.dirties, VmOp.acts]
-- found: the frame goes on at the handler
theorem hn_go {tb : Tables} {e : Env} {s target : State} {g : JFrame} {c : Code} {below : List Frame} {a : Addr} {hpc : Nat} {vm' : Vm} (h : At s g.method c below)
    (hf : ∀ (Q : Handler → Pre) (E : CtlPost) (d : Bool) (acts : List Action), wp (findHandler g a) Q E e d acts ((s.setTop g).pushFrame (.throwing a)) ↔ Q (.found hpc) d acts (((s.setTop g).pushFrame (.throwing a)).setVm vm'))
    (hrest : Steps tb e below ((s.setVm vm').setTop { g with pc := hpc, stack := [.ref a] }) target) : Steps tb e below ((s.setTop g).pushFrame (.throwing a)) target := by
  obtain ⟨g₀, hg⟩ := Option.isSome_iff_exists.mp h.top
  obtain ⟨r, hr⟩ := State.topJava?_eq_some.mp hg
  have hst : ∀ S : State, (∀ (Q : Handler → Pre) (E : CtlPost) (d : Bool) (acts : List Action), wp (findHandler g a) Q E e d acts S ↔ Q (.found hpc) d acts (S.setVm vm')) → (stepThrowing e S a (.java g :: r)).Is ((S.setVm vm').setFrames (.java { g with pc := hpc, stack := [.ref a] } :: r)) [] := by
    intro S hS
    simp only [stepThrowing, searchFrame, vmDo]
    generalize hres : Sem.go _ e false [] S = res
    obtain ⟨as, rfl, ha⟩ := Sem.eq_ok_of hres (a := Handler.found hpc) (s' := S.setVm vm') (acts' := []) (by simp [hS _ _ _ _])
    exact ⟨rfl, ha⟩
  obtain ⟨hgo, hw⟩ := h.throwing a
  refine Steps.head hgo hw ?_
  rw [stepThread_throwing (frames_entered h.top _), hr, List.tail_cons, (hst _ hf).1]
  have hr' : (s.setVm vm').frames = .java g₀ :: r := hr
  rw [State.setTop_of_frames _ hr'] at hrest
  have e1 : (((s.setTop g).pushFrame (.throwing a)).setVm vm').setFrames (.java { g with pc := hpc, stack := [.ref a] } :: r) = (s.setVm vm').setFrames (.java { g with pc := hpc, stack := [.ref a] } :: r) := by
    rw [State.pushFrame, State.setTop_of_frames _ hr]
    show (((s.setVm vm').setFrames _).setFrames _).setFrames _ = _
    rw [State.setFrames_setFrames, State.setFrames_setFrames]
  rw [e1]
  exact hrest
-- caught by the first row, or by the second where the first doesn't take it
theorem hn_catch {p : Program} {l : Launch} {e : Env} {R : Room} {s : State} {m : MethodId} {args : Array Value} {below : List Frame} {meth : Method} {c : Code} {B : State} {locs : List Loc} {cells slots : Nat} (X : Stand p l e R s m args below meth c B locs cells slots) (a : Addr) {g : JFrame} (hg : g.method = m) {ce : Cell} (hce : B.heap[a]? = some ce) (hcv : ce.vm = .none)
    {own E : String} (hown : s.vm.findClass own = some m.cls) (hcl : s.vm.findClass E = some ce.cls) (pre : List ExceptionTableEntry) (x : ExceptionTableEntry) (suf : List ExceptionTableEntry) (hsplit : c.exceptionTable.toList = pre ++ x :: suf)
    (hpre : pre = [] ∨ ∃ y nm, pre = [y] ∧ covers y g.pc = true ∧ y.catchType ≠ 0 ∧ (Cond.classLink own y.catchType nm).before args s = true ∧ va_Nc E nm s)
    (hx : covers x g.pc = true) (h0 : x.catchType ≠ 0) {nm : String} (hlink : (Cond.classLink own x.catchType nm).before args s = true) (hcast : (Cond.castable E nm).before args s = true) :
    ∃ vm', Stand p l e R s m args below meth c (B.setVm vm') locs cells slots ∧ ∀ target, Steps p.tables e below ((B.setVm vm').setTop { g with pc := x.handlerPc, stack := [.ref a] }) target → Steps p.tables e below ((B.setTop g).pushFrame (.throwing a)) target := by
  subst hg
  have hpl : e.platform.magicAccessors = ({} : Platform).magicAccessors := by rw [X.admits.platform]
  have hobj : ∀ k, ce.vm ≠ .statics k := fun k h => by rw [hcv] at h; cases h
  obtain ⟨c3, c4, hc3, hc4, hasg⟩ := Cond.castable_spec hcast
  cases Option.some.inj (hc3.symm.trans hcl)
  obtain ⟨c5, hc5, hl5⟩ := Cond.classLink_spec hown hlink e.platform hpl
  cases Option.some.inj (hc4.symm.trans hc5)
  have hk0 : ∃ k, s.vm.classes[ce.cls]? = some k := by obtain ⟨k9, h9, -⟩ := Vm.findClass_spec hcl; exact ⟨k9, h9⟩
  obtain ⟨k0, hk0⟩ := hk0
  have hV : ∀ S : State, S.heap = B.heap → s.WarmedH S.vm → ∃ vm', s.WarmedH vm' ∧ ∀ (Q : Handler → Pre) (E : CtlPost) (d : Bool) (acts : List Action), wp (findHandler.go g a (x :: suf)) Q E e d acts S ↔ Q (.found x.handlerPc) d acts (S.setVm vm') := by
    intro S hS hW
    obtain ⟨ka, hka, -⟩ := hW.alike.2.2 _ _ hk0
    obtain ⟨dk, _, _, kt, hd, _, _, _, _, hkt, _, hopen⟩ := hl5.here
    obtain ⟨kb, hkb, -⟩ := hW.alike.2.2 _ _ hkt
    refine ⟨_, hW.noted hd hopen (State.rightAt_cls hl5), fun Q E d acts => ?_⟩
    rw [hn_row hx h0 (hW.classLinks hl5) (by rw [hS]; exact hce) hobj ⟨ka, hka⟩ ⟨kb, hkb⟩, if_pos (by rw [hW.alike.assignable]; exact hasg)]
  have hm : ((B.setTop g).pushFrame (.throwing a)).vm.method? g.method = some meth := X.method'
  rcases hpre with rfl | ⟨y, nm2, rfl, hy, hy0, hyl, cc, tt, hc1, hc2, hno⟩
  · obtain ⟨vm', hW', hf⟩ := hV ((B.setTop g).pushFrame (.throwing a)) rfl X.warmed
    refine ⟨vm', X.noted hW', fun target ht => hn_go X.here (fun Q E d acts => ?_) ht⟩
    rw [W.findHandler_eq hm X.code, hsplit]
    exact hf Q E d acts
  · cases Option.some.inj (hc1.symm.trans hcl)
    obtain ⟨c6, hc6, hl6⟩ := Cond.classLink_spec hown hyl e.platform hpl
    cases Option.some.inj (hc2.symm.trans hc6)
    obtain ⟨ka, hka, -⟩ := X.warmed.alike.2.2 _ _ hk0
    obtain ⟨dk, _, _, kt, hd, _, _, _, _, hkt, _, hopen⟩ := hl6.here
    obtain ⟨kb, hkb, -⟩ := X.warmed.alike.2.2 _ _ hkt
    obtain ⟨vm', hW', hf⟩ := hV (((B.setTop g).pushFrame (.throwing a)).setVm (B.vm.noted g.method.cls y.catchType (.cls tt))) rfl (X.warmed.noted hd hopen (State.rightAt_cls hl6))
    refine ⟨vm', X.noted hW', fun target ht => hn_go X.here (fun Q E d acts => ?_) ht⟩
    rw [W.findHandler_eq hm X.code, hsplit]
    show wp (findHandler.go g a (y :: (x :: suf))) Q E e d acts _ ↔ _
    rw [hn_row (s := (B.setTop g).pushFrame (.throwing a)) hy hy0 (X.warmed.classLinks hl6) hce hobj ⟨ka, hka⟩ ⟨kb, hkb⟩, if_neg (by
      show ¬ B.vm.assignable ce.cls tt = true
      rw [X.warmed.alike.assignable, hno]; decide)]
    exact hf Q E d acts
-- the law's helpers: they always return; at most one cell of six slots is made
abbrev HT : Type := List (Nat × Nat × Nat × Nat)
def Hc (l : Launch) (K : KK) (y : MethodName) (b : ByteArray) (mL fr lo : Nat) (hh : HT) (av : List Value) (σ : Mem) (r : Int32) (q : Mem) : Prop := l.stackTraces = false →
  Met l y (.codeWith y b mL (some .int) hh :: wAll) { frames := fr, cells := 1, slots := 6, locals := lo } (PcO K av σ) (QcR K (some (.int r)) q) 1 6 (AK K)
def EndsH (K : KK) (Γ : Cx) (hh : HT) (r : Int32) (q : Mem) : Prop := match Γ with
  | (_, _, _, R, s, _, args, below, meth, c, Q, c0, s0) => Q = MQ below (QcR K (some (.int r)) q) args s 1 6 (AK K) ∧ meth.sig.returnType = some .int ∧ c.exceptionTable.toList.map (fun h => (h.startPc, h.endPc, h.handlerPc, h.catchType)) = hh ∧ 1 ≤ R.cells ∧ 6 ≤ R.slots ∧ c0 = 0 ∧ s0 = 0
theorem Hc_of {l : Launch} {y : MethodName} {b : ByteArray} {mL : Nat} {hh : HT} {av : List Value} {L : List (Nat × Value)} (hy : plainFor y = true) (ho : y.cls = own) (hlen : (lg_sl av).length ≤ mL) (hL : lv_args 0 av = L)
    (body : ∀ Γ : Cx, Good K Γ b own mL fr lo → EndsH K Γ hh r q → WW K Γ 0 σ 0 L []) : Hc l K y b mL fr lo hh av σ r q := by
  intro hst
  subst ho
  subst hL
  refine MetFree.of_bodySF (code := b) (maxLocals := mL) (ret := some .int) hy ?_ ?_
  · intro args s m h hn
    obtain ⟨m9, meth, c, hn9, h1, h2, h3, h4, -, h5, h6, -⟩ := Cond.codeWith_spec (atoms_spec (ws := Cond.codeWith y b mL (some .int) hh :: wAll) h _ List.mem_cons_self)
    cases Option.some.inj (hn9.symm.trans hn)
    exact ⟨meth, c, h1, h2, h3, h4, h5, h6⟩
  · intro p e' s m args below meth c s₁ B hml hv _
    obtain ⟨rfl, hP, hD, hK, hU, hN⟩ := hv
    have hts := atoms_spec (ws := Cond.codeWith y b mL (some .int) hh :: wAll) B.pre
    have hh0 : s₁.heap = s.heap := by rw [B.state]; rfl
    obtain ⟨m9, meth9, c9, hn9, h1, h2, h3, h4, htb, h5, h6, -⟩ := Cond.codeWith_spec (hts _ List.mem_cons_self)
    have X9 := Stand.of_body B
    cases Option.some.inj (hn9.symm.trans B.named)
    cases Option.some.inj (h1.symm.trans X9.method)
    cases Option.some.inj (h2.symm.trans X9.code)
    have hw := body (p, l, e', ({ frames := fr, cells := 1, slots := 6, locals := lo } : Room), s, m, av.toArray, below, meth, c, MQ below (QcR K (some (.int r)) q) av.toArray s 1 6 (AK K), 0, 0) ⟨B.exec, B.bytes, hml, findClass_of_methodNamed B.named, fun w h => hts w (List.mem_cons_of_mem _ h), hK, ⟨Nat.le_refl _, Nat.le_refl _, Nat.zero_le _, Nat.zero_le _⟩, B.notSynchronized, trivial, hst, hU, hN⟩
      ⟨rfl, B.returns, htb, Nat.le_refl _, Nat.le_refl _, rfl, rfl⟩ s.heap [] _ (by rw [hml]; exact lv_entry av hlen) hP hD va_S.rf
    rw [lg_entry_eq]
    obtain ⟨t, a1, oc, b1, b2, b3, b4⟩ := hw s₁ hh0 X9
    exact ⟨t, oc, a1, b1, b2, b3, b4⟩
theorem ww_hret {v : Int32} {hh : HT} (G : Good K Γ cc own nL fr lo) (E : EndsH K Γ hh r q) (hn : n ≤ 1) (d : decode cc pc = .ok (.ireturn, 1)) (h : mm_ri v σ = some (.inr (some (.int r)), q)) : WW K Γ n σ pc L [.int v] := by
  obtain ⟨e1, rfl⟩ : (Sum.inr (some (Value.int v)) : Oc) = .inr (some (.int r)) ∧ σ = q := ⟨congrArg Prod.fst (Option.some.inj h), congrArg Prod.snd (Option.some.inj h)⟩
  obtain rfl : v = r := by cases e1; rfl
  obtain ⟨p, l, e, R, s, m, args, below, meth, c, Q, c0, s0⟩ := Γ
  obtain ⟨hx, hb, hml, hown, hts, hK, hR, hlk, hz, hst, hU, hN⟩ := G
  obtain ⟨rfl, hr, htb, hc1, hc2, rfl, rfl⟩ := E
  intro H locs ls hl hP hD hS
  refine W.widen (k := 1) (n := 6) (by omega) (by omega) ?_
  exact W.iret hx hb hr (fun t ht hW => ⟨rfl, Wd.of hK hU hN hP hD hS ht hW.alike, hS.F ht⟩) hS.2.2 d hlk
theorem ww_callV0 {As rest : List Value} {i F idx na : Nat} {y : MethodName} {b1 : ByteArray} {mL fr1 lo1 : Nat} {rt1 : Option FieldType} {r : Option Value} {q1 : Mem} (G : Good K Γ cc own nL fr lo) (cs : CsV own idx y b1 mL rt1 na F) (hi : i < cnt F) (hC : Ct (Γ.2.1) K y b1 mL rt1 fr1 lo1 (.ref (aa K F i) :: As) σ (.inr r) q1)
    (hS0 : S = As.reverse ++ .ref (aa K F i) :: rest) (hn : As.length = na) (hw : (rest.map fun v => v.category).sum ≤ 8) (d : decode cc pc = .ok (.invokevirtual idx, 3)) (hR : fr1 + 1 ≤ fr ∧ 8 + (mL + 11) + lo1 ≤ lo) (k : WW K Γ 0 q1 (pc + 3) L (r.toList ++ rest)) : WW K Γ 0 σ pc L S := by
  subst hS0
  refine ww_goR (a := (Value.ref (aa K F i) :: As).toArray) (q1 := q1) (r := r) (rest := rest) ?_ k
  obtain ⟨p, l, e, R, s, m, args, below, meth, c, Q, c0, s0⟩ := Γ
  obtain ⟨hx, hb, hml, hown, hts, hK, hRR, hlk, hz, hst, hU, hN⟩ := G
  obtain ⟨hF, ci, T, N, hcl, hct, hgood, hd⟩ := cs
  intro H locs ls hl hP hD hS
  have hcw : CallW R s args own y.cls idx y b1 mL rt1 (.code y b1 mL rt1 :: wAll) { frames := fr1, cells := 0, slots := 0, locals := lo1 } 0 0 na :=
    cwV na hts hgood rfl rfl rfl ⟨rfl, hd⟩ ⟨Nat.le_trans hR.1 hRR.1, Nat.le_trans hR.2 hRR.2.1⟩
  obtain ⟨fl, e1⟩ := hct K i (σ.1 F i) (σ.2 F i)
  refine va_runV ⟨hx, hb, rfl, hown, hts⟩ (hC hst) hcw ⟨PcO_blind, ?_, fun U hU' hW => ⟨rfl, Wd.of hK hU hN hP hD hS hU' hW.alike⟩⟩ rfl hn hl.1 rfl (lv_room hw) d ⟨hRR.2.2.1, hRR.2.2.2⟩
  exact va_recv (q := (y.cls, T, N)) hK hP hcl ((FL_at hF hi).trans (by show some (_, ctR K F i (σ.1 F i) (σ.2 F i)) = _; rw [e1]))
-- a call that throws, caught here: row k of the table, whose class has the name of the exception
theorem ww_callX {As rest : List Value} {i F idx na e1 : Nat} {y : MethodName} {b1 : ByteArray} {mL fr1 lo1 : Nat} {rt1 : Option FieldType} {q1 : Mem} {hh : HT} (G : Good K Γ cc own nL fr lo) (E : EndsH K Γ hh r q) (cs : CsV own idx y b1 mL rt1 na F) (hi : i < cnt F) (hC : Ct (Γ.2.1) K y b1 mL rt1 fr1 lo1 (.ref (aa K F i) :: As) σ (.inl e1) q1)
    (hS0 : S = As.reverse ++ .ref (aa K F i) :: rest) (hn : As.length = na) (hw : (rest.map fun v => v.category).sum ≤ 8) (d : decode cc pc = .ok (.invokevirtual idx, 3)) (hR : fr1 + 1 ≤ fr ∧ 8 + (mL + 11) + lo1 ≤ lo)
    (pre : HT) (a1 a2 a3 a4 : Nat) (suf : HT) (hsp : hh = pre ++ (a1, a2, a3, a4) :: suf) (hcov : (a1 ≤ pc ∧ pc < a2) ∧ a4 ≠ 0) (hlink : Cond.classLink own a4 (exn e1) ∈ wAll) (hcast : Cond.castable (exn e1) (exn e1) ∈ xs_nw)
    (hpre : pre = [] ∨ ∃ b1 b2 b3 b4, pre = [(b1, b2, b3, b4)] ∧ (b1 ≤ pc ∧ pc < b2) ∧ b4 ≠ 0 ∧ Cond.classLink own b4 (exn 1) ∈ wAll ∧ (e1 = 2 ∨ e1 = 3 ∨ e1 = 4))
    (k : ∀ x, WW K Γ 1 q1 a3 L [.ref x]) : WW K Γ 0 σ pc L S := by
  subst hS0
  obtain ⟨p, l, e, R, s, m, args, below, meth, c, Q, c0, s0⟩ := Γ
  obtain ⟨hx, hb, hml, hown, hts, hK, hRR, hlk, hz, hst, hU, hN⟩ := G
  obtain ⟨rfl, hrt, htb, hc1, hc2, rfl, rfl⟩ := E
  obtain ⟨hF, ci, T0, N, hcl0, hct, hgo, hd⟩ := cs
  intro H locs ls hl hP hD hS T hT X0
  have X : Stand p l e R s m args below meth c T locs 0 0 := X0
  subst hb
  have hmem : ∀ w ∈ wsV own idx y.cls y (.code y b1 mL rt1 :: wAll), w.before args s = true := fun w h => hts w (hgo w h).1
  have hcode : (Cond.code y b1 mL rt1).before args s = true := hmem _ (by simp [wsV])
  obtain ⟨mk, methM, hnamed, hmethM, hstM, habM⟩ := Cond.instanceMethod_spec (hmem (.instanceMethod y) (by simp [wsV]))
  obtain ⟨methM', cM, hmethM', -, -, -, -, -, -, hsigM⟩ := Cond.code_spec hnamed hcode
  cases hmethM.symm.trans hmethM'
  obtain ⟨c2, r2, m2, z1, z2, z3, z4, kP, hkP, hkPi⟩ := Cond.selects_spec (hmem (.selects y.cls y y) (by simp [wsV]))
  obtain ⟨fl, ef⟩ := hct K i (σ.1 F i) (σ.2 F i)
  obtain ⟨cellB, hcB, hoB, hclB⟩ := va_recv (q := (y.cls, T0, N)) hK hP hcl0 ((FL_at hF hi).trans (by show some (_, ctR K F i (σ.1 F i) (σ.2 F i)) = _; rw [ef]))
  cases Option.some.inj (hclB.symm.trans z1)
  cases (State.methodFound?_of_named hnamed ⟨hd.1, hd.2.1⟩).symm.trans z2
  cases hnamed.symm.trans z3
  have hselP : selectMethod e.platform s.vm cellB.cls mk = .method mk := by rw [Launch.admits_selectMethod X.admits]; exact z4
  have hlen : As.length = methM.sig.parameters.length := by
    have h9 := hd.2.2
    rw [hsigM] at h9
    rw [hn]; exact (Option.some.inj h9).symm
  obtain ⟨vm₁, X₁, hstep₁⟩ := X.invokevirtual hx hown (hmem (.methodLink own idx y) (by simp [wsV])) hnamed hmethM hstM hkP hkPi ⟨hd.1, hd.2.1⟩ (a := aa K F i) (cell := cellB) (by rw [hT]; exact hcB)
    (fun z h => by rw [h] at hoB; cases hoB) hselP hmethM habM hkP hkPi (g := F0 m pc ls (As.reverse ++ .ref (aa K F i) :: rest)) rfl (argsL := As) (rest := rest) hlen rfl d
  have hWd : Wd K σ (T.setVm vm₁) := Wd.of hK hU hN hP hD hS hT X₁.warmed.alike
  obtain ⟨x, ce, B, L1, X2, hst2, hce, hcv, hcl, hWB, hFr, hL1⟩ := thr_back X₁ (hC hst) (pay_in hts fun w h => hgo w (by simp [wsV] at h ⊢; rcases h with h | h <;> simp [h])) (hgo _ (by simp [wsV])).1 (g := F0 m pc ls rest) rfl hl.1 d (lv_room hw) (X₁.named hnamed) hWd ⟨Nat.le_trans hR.1 hRR.1, Nat.le_trans hR.2 hRR.2.1⟩ ⟨by omega, by omega⟩
  obtain ⟨hz1, hk1⟩ := hFr
  have hTH : (T.setVm vm₁).heap = H := hT
  rw [hTH] at hz1 hk1
  have hS' : va_S (AK K) s.heap B.heap (locs ++ L1) := ⟨Nat.le_trans hS.1 hz1, fun a h1 h2 => (hk1 a (Nat.lt_of_lt_of_le h1 hS.1) h2).trans (hS.2.1 a h1 h2), fun z hz => (List.mem_append.mp hz).elim (hS.2.2 z) (hL1 z)⟩
  rw [hsp] at htb
  obtain ⟨P1, P2, hP12, hm1, hm2⟩ := List.map_eq_append_iff.mp htb
  obtain ⟨xr, P3, hP3, hxr, -⟩ := List.map_eq_cons_iff.mp hm2
  subst hP3
  have hx4 : xr.startPc = a1 ∧ xr.endPc = a2 ∧ xr.handlerPc = a3 ∧ xr.catchType = a4 := by
    simp only [Prod.mk.injEq] at hxr
    exact hxr
  obtain ⟨rfl, rfl, rfl, rfl⟩ := hx4
  have hcv9 : covers xr pc = true := by simp [covers, hcov.1.1, hcov.1.2]
  have hcs9 : (Cond.castable (exn e1) (exn e1)).before args s = true := va_tabs (u := s) rfl rfl (hN.2.1 _ hcast)
  have hpre9 : P1 = [] ∨ ∃ y nm, P1 = [y] ∧ covers y (F0 m pc ls rest).pc = true ∧ y.catchType ≠ 0 ∧ (Cond.classLink own y.catchType nm).before args s = true ∧ va_Nc (exn e1) nm s := by
    rcases hpre with rfl | ⟨b1, b2, b3, b4, rfl, hb1, hb2, hb3, hb4⟩
    · exact Or.inl (List.map_eq_nil_iff.mp hm1)
    · obtain ⟨yr, Q3, rfl, hyr, hQ3⟩ := List.map_eq_cons_iff.mp hm1
      have hQ0 : Q3 = [] := List.map_eq_nil_iff.mp hQ3
      subst hQ0
      have hy4 : yr.startPc = b1 ∧ yr.endPc = b2 ∧ yr.handlerPc = b3 ∧ yr.catchType = b4 := by
        simp only [Prod.mk.injEq] at hyr
        exact hyr
      obtain ⟨rfl, rfl, rfl, rfl⟩ := hy4
      refine Or.inr ⟨yr, exn 1, rfl, by simp [covers, hb1.1, hb1.2], hb2, hts _ hb3, ?_⟩
      rcases hb4 with rfl | rfl | rfl
      · exact hN.2.2.1
      · exact hN.2.2.2.1
      · exact hN.2.2.2.2
  obtain ⟨vm', X3, st⟩ := hn_catch X2 x (g := F0 m pc ls rest) rfl hce hcv hown hcl P1 xr P3 hP12 hpre9 hcv9 hcov.2 (hts _ hlink) hcs9
  obtain ⟨t, a1', b1'⟩ := k x B.heap (locs ++ L1) ls hl hWB.1 hWB.2.1 hS' (B.setVm vm') rfl X3
  refine ⟨t, hstep₁ _ fun acts => ?_, b1'⟩
  rw [doInvoke_state]
  exact hst2.trans (st t a1')
theorem ww_xvI1 {As rest : List Value} {i F : Nat} {idx na : Nat} {y : MethodName} {b1 : ByteArray} {mL fr1 lo1 : Nat} {rt1 : Option FieldType} {X : RR} {k : Int32 → Mem → RR} {A : Mem → RR} {e1 a1 a2 a3 a4 : Nat} (G : Good K Γ cc own nL fr lo) (E : EndsH K Γ [(a1, a2, a3, a4)] r q) (cs : CsV own idx y b1 mL rt1 na F) (hi : i < cnt F) (hC : ∀ o1 q1, X = some (o1, q1) → Ct (Γ.2.1) K y b1 mL rt1 fr1 lo1 (.ref (aa K F i) :: As) σ o1 q1) (hS0 : S = As.reverse ++ .ref (aa K F i) :: rest) (hn : As.length = na) (hw : (rest.map fun v => v.category).sum ≤ 8) (d : decode cc pc = .ok (.invokevirtual idx, 3)) (hR : fr1 + 1 ≤ fr ∧ 8 + (mL + 11) + lo1 ≤ lo) (h1 : ((a1 ≤ pc ∧ pc < a2) ∧ a4 ≠ 0) ∧ Cond.castable (exn e1) (exn e1) ∈ xs_nw) (w1 : Cond.classLink own a4 (exn e1) ∈ wAll) (h : mm_xI X k (mm_h1 e1 A) = some (.inr (some (.int r)), q)) (kk : ∀ v s, k v s = some (.inr (some (.int r)), q) → WW K Γ 0 s (pc + 3) L (.int v :: rest)) (kx : ∀ s x, A s = some (.inr (some (.int r)), q) → WW K Γ 1 s a3 L [.ref x]) : WW K Γ 0 σ pc L S := by
  unfold mm_xI at h
  split at h
  · exact ww_callV0 G cs hi (hC _ _ rfl) hS0 hn hw d hR (kk _ _ h)
  · skip
    unfold mm_h1 at h
    split at h
    · rename_i he
      subst he
      exact ww_callX G E cs hi (hC _ _ rfl) hS0 hn hw d hR [] a1 a2 a3 a4 [] rfl h1.1 w1 h1.2 (Or.inl rfl) (fun x => kx _ x h)
    · exact nomatch h
  · exact nomatch h
theorem ww_xvI2 {As rest : List Value} {i F : Nat} {idx na : Nat} {y : MethodName} {b1 : ByteArray} {mL fr1 lo1 : Nat} {rt1 : Option FieldType} {X : RR} {k : Int32 → Mem → RR} {A B : Mem → RR} {e1 e2 a1 a2 a3 a4 c1 c2 c3 c4 : Nat} (G : Good K Γ cc own nL fr lo) (E : EndsH K Γ [(a1, a2, a3, a4), (c1, c2, c3, c4)] r q) (cs : CsV own idx y b1 mL rt1 na F) (hi : i < cnt F) (hC : ∀ o1 q1, X = some (o1, q1) → Ct (Γ.2.1) K y b1 mL rt1 fr1 lo1 (.ref (aa K F i) :: As) σ o1 q1) (hS0 : S = As.reverse ++ .ref (aa K F i) :: rest) (hn : As.length = na) (hw : (rest.map fun v => v.category).sum ≤ 8) (d : decode cc pc = .ok (.invokevirtual idx, 3)) (hR : fr1 + 1 ≤ fr ∧ 8 + (mL + 11) + lo1 ≤ lo) (h1 : ((a1 ≤ pc ∧ pc < a2) ∧ a4 ≠ 0) ∧ Cond.castable (exn e1) (exn e1) ∈ xs_nw) (w1 : Cond.classLink own a4 (exn e1) ∈ wAll) (h2 : ((c1 ≤ pc ∧ pc < c2) ∧ c4 ≠ 0) ∧ Cond.castable (exn e2) (exn e2) ∈ xs_nw ∧ e1 = 1 ∧ (e2 = 2 ∨ e2 = 3 ∨ e2 = 4)) (w2 : Cond.classLink own c4 (exn e2) ∈ wAll) (h : mm_xI X k (mm_h2 e1 e2 A B) = some (.inr (some (.int r)), q)) (kk : ∀ v s, k v s = some (.inr (some (.int r)), q) → WW K Γ 0 s (pc + 3) L (.int v :: rest)) (kx : ∀ s x, A s = some (.inr (some (.int r)), q) → WW K Γ 1 s a3 L [.ref x]) (ky : ∀ s x, B s = some (.inr (some (.int r)), q) → WW K Γ 1 s c3 L [.ref x]) : WW K Γ 0 σ pc L S := by
  unfold mm_xI at h
  split at h
  · exact ww_callV0 G cs hi (hC _ _ rfl) hS0 hn hw d hR (kk _ _ h)
  · skip
    unfold mm_h2 at h
    split at h
    · rename_i he
      subst he
      exact ww_callX G E cs hi (hC _ _ rfl) hS0 hn hw d hR [] a1 a2 a3 a4 [(c1, c2, c3, c4)] rfl h1.1 w1 h1.2 (Or.inl rfl) (fun x => kx _ x h)
    · split at h
      · rename_i he
        subst he
        obtain ⟨g1, g2, rfl, g4⟩ := h2
        exact ww_callX G E cs hi (hC _ _ rfl) hS0 hn hw d hR [(a1, a2, a3, a4)] c1 c2 c3 c4 [] rfl g1 w2 g2 (Or.inr ⟨a1, a2, a3, a4, rfl, h1.1.1, h1.1.2, w1, g4⟩) (fun x => ky _ x h)
      · exact nomatch h
  · exact nomatch h
theorem ww_xvV1 {As rest : List Value} {i F : Nat} {idx na : Nat} {y : MethodName} {b1 : ByteArray} {mL fr1 lo1 : Nat} {rt1 : Option FieldType} {X : RR} {k : Mem → RR} {A : Mem → RR} {e1 a1 a2 a3 a4 : Nat} (G : Good K Γ cc own nL fr lo) (E : EndsH K Γ [(a1, a2, a3, a4)] r q) (cs : CsV own idx y b1 mL rt1 na F) (hi : i < cnt F) (hC : ∀ o1 q1, X = some (o1, q1) → Ct (Γ.2.1) K y b1 mL rt1 fr1 lo1 (.ref (aa K F i) :: As) σ o1 q1) (hS0 : S = As.reverse ++ .ref (aa K F i) :: rest) (hn : As.length = na) (hw : (rest.map fun v => v.category).sum ≤ 8) (d : decode cc pc = .ok (.invokevirtual idx, 3)) (hR : fr1 + 1 ≤ fr ∧ 8 + (mL + 11) + lo1 ≤ lo) (h1 : ((a1 ≤ pc ∧ pc < a2) ∧ a4 ≠ 0) ∧ Cond.castable (exn e1) (exn e1) ∈ xs_nw) (w1 : Cond.classLink own a4 (exn e1) ∈ wAll) (h : mm_xV X k (mm_h1 e1 A) = some (.inr (some (.int r)), q)) (kk : ∀ s, k s = some (.inr (some (.int r)), q) → WW K Γ 0 s (pc + 3) L (rest)) (kx : ∀ s x, A s = some (.inr (some (.int r)), q) → WW K Γ 1 s a3 L [.ref x]) : WW K Γ 0 σ pc L S := by
  unfold mm_xV at h
  split at h
  · exact ww_callV0 G cs hi (hC _ _ rfl) hS0 hn hw d hR (kk _ h)
  · skip
    unfold mm_h1 at h
    split at h
    · rename_i he
      subst he
      exact ww_callX G E cs hi (hC _ _ rfl) hS0 hn hw d hR [] a1 a2 a3 a4 [] rfl h1.1 w1 h1.2 (Or.inl rfl) (fun x => kx _ x h)
    · exact nomatch h
  · exact nomatch h
theorem ww_xvV2 {As rest : List Value} {i F : Nat} {idx na : Nat} {y : MethodName} {b1 : ByteArray} {mL fr1 lo1 : Nat} {rt1 : Option FieldType} {X : RR} {k : Mem → RR} {A B : Mem → RR} {e1 e2 a1 a2 a3 a4 c1 c2 c3 c4 : Nat} (G : Good K Γ cc own nL fr lo) (E : EndsH K Γ [(a1, a2, a3, a4), (c1, c2, c3, c4)] r q) (cs : CsV own idx y b1 mL rt1 na F) (hi : i < cnt F) (hC : ∀ o1 q1, X = some (o1, q1) → Ct (Γ.2.1) K y b1 mL rt1 fr1 lo1 (.ref (aa K F i) :: As) σ o1 q1) (hS0 : S = As.reverse ++ .ref (aa K F i) :: rest) (hn : As.length = na) (hw : (rest.map fun v => v.category).sum ≤ 8) (d : decode cc pc = .ok (.invokevirtual idx, 3)) (hR : fr1 + 1 ≤ fr ∧ 8 + (mL + 11) + lo1 ≤ lo) (h1 : ((a1 ≤ pc ∧ pc < a2) ∧ a4 ≠ 0) ∧ Cond.castable (exn e1) (exn e1) ∈ xs_nw) (w1 : Cond.classLink own a4 (exn e1) ∈ wAll) (h2 : ((c1 ≤ pc ∧ pc < c2) ∧ c4 ≠ 0) ∧ Cond.castable (exn e2) (exn e2) ∈ xs_nw ∧ e1 = 1 ∧ (e2 = 2 ∨ e2 = 3 ∨ e2 = 4)) (w2 : Cond.classLink own c4 (exn e2) ∈ wAll) (h : mm_xV X k (mm_h2 e1 e2 A B) = some (.inr (some (.int r)), q)) (kk : ∀ s, k s = some (.inr (some (.int r)), q) → WW K Γ 0 s (pc + 3) L (rest)) (kx : ∀ s x, A s = some (.inr (some (.int r)), q) → WW K Γ 1 s a3 L [.ref x]) (ky : ∀ s x, B s = some (.inr (some (.int r)), q) → WW K Γ 1 s c3 L [.ref x]) : WW K Γ 0 σ pc L S := by
  unfold mm_xV at h
  split at h
  · exact ww_callV0 G cs hi (hC _ _ rfl) hS0 hn hw d hR (kk _ h)
  · skip
    unfold mm_h2 at h
    split at h
    · rename_i he
      subst he
      exact ww_callX G E cs hi (hC _ _ rfl) hS0 hn hw d hR [] a1 a2 a3 a4 [(c1, c2, c3, c4)] rfl h1.1 w1 h1.2 (Or.inl rfl) (fun x => kx _ x h)
    · split at h
      · rename_i he
        subst he
        obtain ⟨g1, g2, rfl, g4⟩ := h2
        exact ww_callX G E cs hi (hC _ _ rfl) hS0 hn hw d hR [(a1, a2, a3, a4)] c1 c2 c3 c4 [] rfl g1 w2 g2 (Or.inr ⟨a1, a2, a3, a4, rfl, h1.1.1, h1.1.2, w1, g4⟩) (fun x => ky _ x h)
      · exact nomatch h
  · exact nomatch h
end VHelp

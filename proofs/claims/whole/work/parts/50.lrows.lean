section VLaw
variable {K : KK} {Γ : Cx} {cc : ByteArray} {own : String} {nL fr lo n : Nat} {σ : Mem} {pc : Nat} {L : List (Nat × Value)} {S : List Value} {fin : Oc × Mem}
def mm_sx (xs : Nat → Int32) (nx : Nat) (x : Int32) (k : Int32 → RR) : RR := if x < 0 ∨ nx ≤ x.toNatClampNeg then none else k (xs x.toNatClampNeg)
def NR (Γ : Cx) (n : Nat) : Prop := match Γ with
  | (_, _, _, R, _, _, _, _, _, _, _, c0, s0) => c0 + n ≤ R.cells ∧ s0 + 6 * n ≤ R.slots
def SXl (K : KK) (Γ : Cx) (xs : Nat → Int32) (nx : Nat) : Prop := match Γ with
  | (_, _, _, _, s, _, _, _, _, _, _, _, _) => va_X (aa K 71 0) nx xs s s.heap ∧ aa K 71 0 < s.heap.size ∧ ¬ AK K (aa K 71 0)
theorem wl_sld {xs : Nat → Int32} {nx : Nat} {x : Int32} {k : Int32 → RR} (G : Good K Γ cc own nL fr lo) (SX : SXl K Γ xs nx) (d : decode cc pc = .ok (.iaload, 1)) (h : mm_sx xs nx x k = some fin) (kk : ∀ v, k v = some fin → WW K Γ n σ (pc + 1) L (.int v :: S)) : WW K Γ n σ pc L (.int x :: .ref (aa K 71 0) :: S) := by
  by_cases hin : x < 0 ∨ nx ≤ x.toNatClampNeg
  · rw [mm_sx, if_pos hin] at h; exact nomatch h
  rw [mm_sx, if_neg hin] at h
  have k := kk _ h
  obtain ⟨p, l, e, R, s, m, args, below, meth, c, Q, c0, s0⟩ := Γ
  obtain ⟨hx, hb, hml, hown, hts, hK, hR, hlk, hz, hst, hU, hN⟩ := G
  intro H locs ls hl hP hD hS
  exact va_sld hx hb SX.1 SX.2.1 SX.2.2 hS hin d (k H locs ls hl hP hD hS)
theorem wl_slen {xs : Nat → Int32} {nx : Nat} (G : Good K Γ cc own nL fr lo) (SX : SXl K Γ xs nx) (d : decode cc pc = .ok (.arraylength, 1)) (k : WW K Γ n σ (pc + 1) L (.int (nI nx) :: S)) : WW K Γ n σ pc L (.ref (aa K 71 0) :: S) := by
  obtain ⟨p, l, e, R, s, m, args, below, meth, c, Q, c0, s0⟩ := Γ
  obtain ⟨hx, hb, hml, hown, hts, hK, hR, hlk, hz, hst, hU, hN⟩ := G
  intro H locs ls hl hP hD hS
  exact va_slen hx hb SX.1 SX.2.1 SX.2.2 hS d (k H locs ls hl hP hD hS)
theorem wl_callV {As rest : List Value} {i F idx na : Nat} {y : MethodName} {b1 : ByteArray} {mL fr1 lo1 : Nat} {rt1 : Option FieldType} {r : Option Value} {q1 : Mem} (G : Good K Γ cc own nL fr lo) (hr : NR Γ n) (cs : CsV own idx y b1 mL rt1 na F) (hi : i < cnt F) (hC : Ct (Γ.2.1) K y b1 mL rt1 fr1 lo1 (.ref (aa K F i) :: As) σ (.inr r) q1)
    (hS0 : S = As.reverse ++ .ref (aa K F i) :: rest) (hn : As.length = na) (hw : (rest.map fun v => v.category).sum ≤ 8) (d : decode cc pc = .ok (.invokevirtual idx, 3)) (hR : fr1 + 1 ≤ fr ∧ 8 + (mL + 11) + lo1 ≤ lo) (k : WW K Γ n q1 (pc + 3) L (r.toList ++ rest)) : WW K Γ n σ pc L S := by
  subst hS0
  obtain ⟨p, l, e, R, s, m, args, below, meth, c, Q, c0, s0⟩ := Γ
  obtain ⟨hx, hb, hml, hown, hts, hK, hRR, hlk, hz, hst, hU, hN⟩ := G
  obtain ⟨hF, ci, T, N, hcl, hct, hgood, hd⟩ := cs
  intro H locs ls hl hP hD hS
  have hcw : CallW R s args own y.cls idx y b1 mL rt1 (.code y b1 mL rt1 :: wAll) { frames := fr1, cells := 0, slots := 0, locals := lo1 } 0 0 na :=
    cwV na hts hgood rfl rfl rfl ⟨rfl, hd⟩ ⟨Nat.le_trans hR.1 hRR.1, Nat.le_trans hR.2 hRR.2.1⟩
  obtain ⟨fl, e1⟩ := hct K i (σ.1 F i) (σ.2 F i)
  have hrecv := va_recv (q := (y.cls, T, N)) hK hP hcl ((FL_at hF hi).trans (by show some (_, ctR K F i (σ.1 F i) (σ.2 F i)) = _; rw [e1]))
  exact ran_ret (va_runV (As := As) (rest := rest) (b := aa K F i) (g := F0 m pc ls (As.reverse ++ .ref (aa K F i) :: rest)) ⟨hx, hb, rfl, hown, hts⟩ (hC hst) hcw ⟨PcO_blind, hrecv, fun U hU' hW => ⟨rfl, Wd.of hK hU hN hP hD hS hU' hW.alike⟩⟩ rfl hn hl.1 rfl (lv_room hw) d hr) hS (fun H1 locs1 h1 h2 h3 => k H1 locs1 ls hl h1 h2 h3)
theorem wl_cvI {As rest : List Value} {i F idx na : Nat} {y : MethodName} {b1 : ByteArray} {mL fr1 lo1 : Nat} {rt1 : Option FieldType} {X : RR} {k : Int32 → Mem → RR} (G : Good K Γ cc own nL fr lo) (hr : NR Γ n) (cs : CsV own idx y b1 mL rt1 na F) (hi : i < cnt F) (hC : ∀ o1 q1, X = some (o1, q1) → Ct (Γ.2.1) K y b1 mL rt1 fr1 lo1 (.ref (aa K F i) :: As) σ o1 q1) (hS0 : S = As.reverse ++ .ref (aa K F i) :: rest) (hn : As.length = na) (hw : (rest.map fun v => v.category).sum ≤ 8) (d : decode cc pc = .ok (.invokevirtual idx, 3)) (hR : fr1 + 1 ≤ fr ∧ 8 + (mL + 11) + lo1 ≤ lo) (h : mm_cI X k = some fin) (kk : ∀ v s, k v s = some fin → WW K Γ n s (pc + 3) L (.int v :: rest)) : WW K Γ n σ pc L S := by
  unfold mm_cI at h
  split at h
  · exact wl_callV G hr cs hi (hC _ _ rfl) hS0 hn hw d hR (kk _ _ h)
  · exact nomatch h
theorem wl_cvV {As rest : List Value} {i F idx na : Nat} {y : MethodName} {b1 : ByteArray} {mL fr1 lo1 : Nat} {rt1 : Option FieldType} {X : RR} {k : Mem → RR} (G : Good K Γ cc own nL fr lo) (hr : NR Γ n) (cs : CsV own idx y b1 mL rt1 na F) (hi : i < cnt F) (hC : ∀ o1 q1, X = some (o1, q1) → Ct (Γ.2.1) K y b1 mL rt1 fr1 lo1 (.ref (aa K F i) :: As) σ o1 q1) (hS0 : S = As.reverse ++ .ref (aa K F i) :: rest) (hn : As.length = na) (hw : (rest.map fun v => v.category).sum ≤ 8) (d : decode cc pc = .ok (.invokevirtual idx, 3)) (hR : fr1 + 1 ≤ fr ∧ 8 + (mL + 11) + lo1 ≤ lo) (h : mm_cV X k = some fin) (kk : ∀ s, k s = some fin → WW K Γ n s (pc + 3) L rest) : WW K Γ n σ pc L S := by
  unfold mm_cV at h
  split at h
  · exact wl_callV G hr cs hi (hC _ _ rfl) hS0 hn hw d hR (kk _ h)
  · exact nomatch h
-- a helper's call: it returns; a cell of six slots may be new
theorem ret_back {p : Program} {l : Launch} {e : Env} {R : Room} {s : State} {m : MethodId} {args : Array Value} {below : List Frame} {meth : Method} {c : Code} {U : State} {locs : List Loc} {cells slots : Nat} {y : MethodName} {b1 : ByteArray} {mL fr1 lo1 : Nat} {hh : HT} {av : List Value} {q1 : Mem} {r : Int32} {ig : Instr} {len : Nat} {mk : MethodId} {g : JFrame}
    (X : Stand p l e R s m args below meth c U locs cells slots) (hM : Met l y (.codeWith y b1 mL (some .int) hh :: wAll) { frames := fr1, cells := 1, slots := 6, locals := lo1 } (PcO K av σ) (QcR K (some (.int r)) q1) 1 6 (AK K))
    (hws : ∀ w ∈ (.codeWith y b1 mL (some .int) hh :: wAll : List Cond), ∀ (a' : Array Value) (V : State), s.WarmedH V.vm → w.before a' V = true) (hini : (Cond.initialized y.cls) ∈ wAll)
    (hg : g.method = m) (hsize : g.locals.size = c.maxLocals) (hdg : decode c.code g.pc = .ok (ig, len)) (hw : 2 * g.monitorRoom + (g.stack.map fun v => v.category).sum ≤ 8) (hn : U.methodNamed? y = some mk) (hW : Wd K σ U)
    (hR : fr1 + 1 ≤ R.frames ∧ 8 + (mL + 11) + lo1 ≤ R.locals) (hcells : cells + 1 ≤ R.cells ∧ slots + 6 ≤ R.slots) :
    ∃ (B : State) (L : List Loc), Stand p l e R s m args below meth c B (locs ++ L) (cells + 1) (slots + 6) ∧ Steps p.tables e below (doInvoke e (U.setTop g) [] mk av.toArray).1 (B.setTop { g with pc := g.pc + len, stack := .int r :: g.stack }) ∧ Wd K q1 B ∧ va_F (AK K) U B ∧ ∀ z ∈ L, AK K z.base := by
  have h2 := hws _ List.mem_cons_self av.toArray U X.warmed
  have h3 := hws _ (List.mem_cons_of_mem _ hini) av.toArray U X.warmed
  obtain ⟨m9, methY, cY, hn9, hmY, hcY, -, hlY, -, -, -, -⟩ := Cond.codeWith_spec h2
  cases Option.some.inj (hn9.symm.trans hn)
  obtain ⟨kY, hkY, -⟩ := className_of_methodNamed hn
  have hinitY : kY.init = .initialized := Cond.initialized_spec (findClass_of_methodNamed hn) hkY h3
  have h : At U g.method c below := by rw [hg]; exact X.here
  have happ : (headSpec (.codeWith y b1 mL (some .int) hh :: wAll) { frames := fr1, cells := 1, slots := 6, locals := lo1 }).appliesLoose y e.platform (U.calling g mk av.toArray) = true :=
    Spec.appliesLoose_calling (g := g) h hdg hn hkY hinitY (X.room_calling (g := g) (R' := { frames := fr1, cells := 1, slots := 6, locals := lo1 }) hsize hmY hcY hR.1 (by have := hR.2; rw [hlY]; show _ + _ + (mL + 11) + lo1 ≤ _; omega) hcells.1 hcells.2) (atoms_intro fun w hw' => hws w hw' _ _ X.warmed)
  obtain ⟨mid, hmid⟩ := h.above
  have hfr : (U.setTop g).frames = (.java g :: mid) ++ below := by rw [State.frames_setTop' g h.top, hmid]; rfl
  obtain ⟨oc, s₂, hsteps, -, hend, hq⟩ := Steps.callFree hM p X.admits X.cas X.clock (acts := []) hfr happ ⟨rfl, hW.moved rfl (Vm.Alike.refl U.vm)⟩ trivial
  obtain ⟨⟨rfl, hWd, hF⟩, L, hfe, hL⟩ := (hq : QcR K (some (.int r)) q1 av.toArray (U.calling g mk av.toArray) oc s₂ ∧ ∃ L, FrameEnd (U.calling g mk av.toArray) oc s₂ L 1 6 ∧ ∀ z ∈ L, AK K z.base)
  rw [State.frames_setTop' g h.top] at hend
  obtain ⟨-, hW₂, hsm⟩ := hfe
  have hsm' : (U.calling g mk av.toArray).sameButNew ({ s₂ with vm := (U.calling g mk av.toArray).vm } : State) L 1 6 := hsm
  have hW' : U.WarmedH s₂.vm := hW₂
  obtain ⟨g₀, hg0⟩ := Option.isSome_iff_exists.mp h.top
  obtain ⟨r0, hr⟩ := State.topJava?_eq_some.mp hg0
  have hr' : (({ U with heap := s₂.heap, slotsUsed := s₂.slotsUsed } : State).setVm s₂.vm).frames = .java g₀ :: r0 := hr
  have e3 : s₂ = ({ (U.calling g mk av.toArray).setFrames s₂.frames with heap := s₂.heap, slotsUsed := s₂.slotsUsed } : State).setVm s₂.vm := by
    have e4 : s₂ = ({ s₂ with vm := (U.calling g mk av.toArray).vm } : State).setVm s₂.vm := rfl
    rw [hsm'.1] at e4
    exact e4
  obtain ⟨c₂, i₂, len₂, hc₂, hd₂, hf₂⟩ := hend
  have hcc : c₂ = c := by
    have h1 : s₂.code? g.method = U.code? g.method := by rw [State.code?_eq, State.code?_eq, hW'.alike.method?]
    exact Option.some.inj (hc₂.symm.trans (h1.trans h.code))
  subst hcc
  have hlen : len₂ = len := by rw [hdg] at hd₂; cases hd₂; rfl
  subst hlen
  have hs₂ : s₂ = (({ U with heap := s₂.heap, slotsUsed := s₂.slotsUsed } : State).setVm s₂.vm).setTop { g with pc := g.pc + len₂, stack := .int r :: g.stack } := by
    refine e3.trans ?_
    rw [hf₂, State.calling_eq h.top, State.setFrames_setFrames, State.setTop_of_frames _ hr', hr]
    rfl
  have hsame : U.sameButNew ({ U with heap := s₂.heap, slotsUsed := s₂.slotsUsed } : State) L 1 6 := by
    refine ⟨?_, hsm.2⟩
    obtain ⟨th, ht, -⟩ := State.frames_cons hr
    show ({ U with heap := s₂.heap, slotsUsed := s₂.slotsUsed } : State) = { U.setFrames U.frames with heap := s₂.heap, slotsUsed := s₂.slotsUsed }
    rw [State.setFrames_self ht]
  subst hg
  refine ⟨({ U with heap := s₂.heap, slotsUsed := s₂.slotsUsed } : State).setVm s₂.vm, L,
    ⟨X.admits, X.cas, X.clock, X.frames, X.room, X.hears, X.method, X.code, (X.here.setHeapUsed s₂.heap s₂.slotsUsed).setVm hW'.alike, X.tail, State.WarmedH.trans X.warmed hW', X.limits, X.bytes, X.same.trans (hsame.setVm s.vm)⟩, ?_, hWd.moved rfl (Vm.Alike.refl _), hF, hL⟩
  rw [← hs₂]
  exact hsteps
def CsH (own : String) (idx : Nat) (y : MethodName) (b : ByteArray) (mL : Nat) (hh : HT) (na : Nat) : Prop := (Cond.methodLink own idx y ∈ wAll ∧ Cond.static y ∈ wAll ∧ Cond.initialized y.cls ∈ wAll ∧ Cond.codeWith y b mL (some .int) hh ∈ wAll) ∧ (y.cls ≠ "java/lang/invoke/MethodHandle" ∧ y.cls ≠ "java/lang/invoke/VarHandle" ∧ (parseMethodDescriptor y.desc).map (fun d => d.parameters.length) = some na)
theorem wl_help {As rest : List Value} {idx na : Nat} {y : MethodName} {b1 : ByteArray} {mL fr1 lo1 : Nat} {hh : HT} {X : RR} {k : Int32 → Mem → RR} (G : Good K Γ cc own nL fr lo) (hr : NR Γ (n + 1)) (cs : CsH own idx y b1 mL hh na) (hC : ∀ r q1, X = some (.inr (some (.int r)), q1) → Hc (Γ.2.1) K y b1 mL fr1 lo1 hh As σ r q1) (hS0 : S = As.reverse ++ rest) (hn : As.length = na) (hw : (rest.map fun v => v.category).sum ≤ 8) (d : decode cc pc = .ok (.invokestatic idx, 3)) (hR : fr1 + 1 ≤ fr ∧ 8 + (mL + 11) + lo1 ≤ lo) (h : mm_cI X k = some fin) (kk : ∀ v s, k v s = some fin → WW K Γ (n + 1) s (pc + 3) L (.int v :: rest)) : WW K Γ n σ pc L S := by
  subst hS0
  unfold mm_cI at h
  split at h
  case h_2 => exact nomatch h
  rename_i r q1
  have k := kk _ _ h
  have hC := hC _ _ rfl
  obtain ⟨p, l, e, R, s, m, args, below, meth, c, Q, c0, s0⟩ := Γ
  obtain ⟨hx, hb, hml, hown, hts, hK, hRR, hlk, hz, hst, hU, hN⟩ := G
  obtain ⟨⟨w1, w2, w3, w4⟩, hd⟩ := cs
  intro H locs ls hl hP hD hS T hT X
  subst hb
  have hcode := hts _ w4
  obtain ⟨mk, methM, cM, hnamed, hmethM, -, -, -, -, -, -, hsigM⟩ := Cond.codeWith_spec hcode
  have hstatic : methM.isStatic = true := Cond.static_spec hnamed hmethM (hts _ w2)
  obtain ⟨kP, hkP, -⟩ := className_of_methodNamed hnamed
  have hinitP : kP.init = .initialized := Cond.initialized_spec (findClass_of_methodNamed hnamed) hkP (hts _ w3)
  have hlen : As.length = methM.sig.parameters.length := by
    have h9 := hd.2.2
    rw [hsigM] at h9
    rw [hn]; exact (Option.some.inj h9).symm
  obtain ⟨vm₁, X₁, hstep₁⟩ := X.invokestatic hx hown (hts _ w1) hnamed hmethM hstatic hkP hinitP ⟨hd.1, hd.2.1⟩ (g := F0 m pc ls (As.reverse ++ rest)) rfl (argsL := As) (rest := rest) hlen rfl d
  have hWd : Wd K σ (T.setVm vm₁) := Wd.of hK hU hN hP hD hS hT X₁.warmed.alike
  have hgood : ∀ w ∈ (.codeWith y b1 mL (some .int) hh :: wAll : List Cond), w ∈ wAll := fun w h => (List.mem_cons.mp h).elim (fun e9 => e9 ▸ w4) (fun z => z)
  obtain ⟨B, L1, X2, hst2, hWB, hF, hL1⟩ := ret_back X₁ (hC hst) (pay_in hts fun w h => gd_of hgood w h) w3 (g := F0 m pc ls rest) rfl hl.1 d (lv_room hw) (X₁.named hnamed) hWd ⟨Nat.le_trans hR.1 hRR.1, Nat.le_trans hR.2 hRR.2.1⟩ ⟨hr.1, by have := hr.2; omega⟩
  obtain ⟨hz1, hk1⟩ := hF
  have hTH : (T.setVm vm₁).heap = H := hT
  rw [hTH] at hz1 hk1
  have hS' : va_S (AK K) s.heap B.heap (locs ++ L1) := ⟨Nat.le_trans hS.1 hz1, fun a h1 h2 => (hk1 a (Nat.lt_of_lt_of_le h1 hS.1) h2).trans (hS.2.1 a h1 h2), fun z hz => (List.mem_append.mp hz).elim (hS.2.2 z) (hL1 z)⟩
  obtain ⟨t, a1, b1'⟩ := k B.heap (locs ++ L1) ls hl hWB.1 hWB.2.1 hS' B rfl X2
  refine ⟨t, hstep₁ _ fun acts => ?_, b1'⟩
  rw [doInvoke_state]
  exact hst2.trans a1
end VLaw

section VBuild2
variable {K : KK} {Γ : Cx} {cc : ByteArray} {own : String} {nL fr lo : Nat} {σ : Mem} {pc : Nat} {L : List (Nat × Value)} {S : List Value} {fin : Oc × Mem} {q : Mem} {kB kE : Nat} {nm : String}
def FrB (own : String) (idx F j F2 : Nat) (g : Nat → Nat) (ty : FieldType) : Prop := ∃ (ci : Nat) (C : String) (T : u_T) (N : Nat) (ty0 : Nat → FieldType), vwCl[ci]? = some (C, T, N) ∧ j < N ∧ (∀ w ∈ u_ws C T N, w ∈ wAll) ∧ Cond.fieldLink own idx (T j).1 (T j).2.1 (T j).2.2.1 ∈ wAll ∧
  (∀ K i r z, ∃ fl, cbR K F i r z = .inr (ci, fl) ∧ fl[j]? = some (bb_rf (r j) (aa K F2 (g i))) ∧ j < fl.length ∧ cbR K F i (upd r j 1) z = .inr (ci, fl.set j (.ref (aa K F2 (g i))))) ∧ (∀ k, k < N → parseFieldDescriptor (T k).2.2.1 = some (ty0 k)) ∧ (∀ a, a < N → ∀ b, b < N → a ≠ b → (T a).2.1 ≠ (T b).2.1) ∧ (T j).2.2.2 = true ∧ (T j).1 = own ∧ parseFieldDescriptor (T j).2.2.1 = some ty ∧ (∀ a, narrow ty (.ref a) = .ref a ∧ fits ty (.ref a) = true)
def FiB (own : String) (idx F j : Nat) (fn : Bool) : Prop := ∃ (ci : Nat) (C : String) (T : u_T) (N : Nat) (ty0 : Nat → FieldType), vwCl[ci]? = some (C, T, N) ∧ j < N ∧ (∀ w ∈ u_ws C T N, w ∈ wAll) ∧ Cond.fieldLink own idx (T j).1 (T j).2.1 (T j).2.2.1 ∈ wAll ∧
  (∀ K i r z, ∃ fl, cbR K F i r z = .inr (ci, fl) ∧ j < fl.length ∧ ∀ v, cbR K F i (upd r j v) z = .inr (ci, fl.set j (.int v))) ∧ (∀ k, k < N → parseFieldDescriptor (T k).2.2.1 = some (ty0 k)) ∧ (∀ a, a < N → ∀ b, b < N → a ≠ b → (T a).2.1 ≠ (T b).2.1) ∧ (T j).2.2.2 = fn ∧ (T j).1 = own ∧ parseFieldDescriptor (T j).2.2.1 = some .int
theorem wb_getr {F i j idx F2 : Nat} {g : Nat → Nat} {ty : FieldType} {a : RR} (G : GB K Γ cc own nL fr lo) (fs : FrB own idx F j F2 g ty) (d : decode cc pc = .ok (.getfield idx, 3)) (h : bb_gr σ F i j a = some fin) (k : a = some fin → WB K Γ σ (pc + 3) L (.ref (aa K F2 (g i)) :: S)) : WB K Γ σ pc L (.ref (aa K F i) :: S) := by
  obtain ⟨⟨o1, o2, o3⟩, h⟩ := bb_on_some h
  split at h
  · cases h
  rename_i hr
  have k := k h
  obtain ⟨ci, C, T, N, ty0, hc, hj, hin, hlink, hct, hty, hnm, hfn, hdc, hpd, hnf⟩ := fs
  obtain ⟨p, l, e, R, s, m, args, below, meth, c, Q, c0, s0⟩ := Γ
  obtain ⟨hx, hb, hml, hown, hts, hK, hR, hlk, hA, hRm, hAO, hz⟩ := G
  intro H locs ls hl hP hD hS
  obtain ⟨fl, e1, e2, e3, e4⟩ := hct K i (σ.1 F i) (σ.2 F i)
  have e5 : bb_rf (σ.1 F i j) (aa K F2 (g i)) = .ref (aa K F2 (g i)) := if_neg hr
  rw [e5] at e2
  exact va_get hx hb hts hin hown hK hP (tb_op F i) ((FB_at o1 o2 o3).trans (by show some (_, cbR K F i (σ.1 F i) (σ.2 F i)) = _; rw [e1])) hc j hj (hts _ hlink) (fun _ z => z) e2 d (k H locs ls hl hP hD hS)
theorem wb_putr {F i j idx F2 : Nat} {g : Nat → Nat} {ty : FieldType} {k : Mem → RR} (G : GB K Γ cc own nL fr lo) (E : EndsB K Γ "<init>" kB kE q) (fs : FrB own idx F j F2 g ty) (d : decode cc pc = .ok (.putfield idx, 3)) (h : bb_pr σ F i j k = some fin) (kk : ∀ s, k s = some fin → WB K Γ s (pc + 3) L S) : WB K Γ σ pc L (.ref (aa K F2 (g i)) :: .ref (aa K F i) :: S) := by
  obtain ⟨⟨o1, o2, o3⟩, h⟩ := bb_on_some h
  have k := kk _ h
  obtain ⟨ci, C, T, N, ty0, hc, hj, hin, hlink, hct, hty, hnm, hfn, hdc, hpd, hnf⟩ := fs
  obtain ⟨p, l, e, R, s, m, args, below, meth, c, Q, c0, s0⟩ := Γ
  obtain ⟨hx, hb, hml, hown, hts, hK, hR, hlk, hA, hRm, hAO, hz⟩ := G
  obtain ⟨rfl, hrt, hmn, rfl, rfl, hq⟩ := E
  intro H locs ls hl hP hD hS
  obtain ⟨fl, e1, e2, e3, e4⟩ := hct K i (σ.1 F i) (σ.2 F i)
  refine va_putF hx hb hts hin ty0 hty hnm hown hK hP hD hS (tb_op F i) ((FB_at o1 o2 o3).trans (by show some (_, cbR K F i (σ.1 F i) (σ.2 F i)) = _; rw [e1])) hc j hj (hts _ hlink) (fun _ z => z) hfn hmn hdc hpd (hnf _).1 (hnf _).2 e3 d (fun H1 locs1 hP1 hD1 hS1 => ?_)
  have hkn : kn (mm_wI σ F i j 1) = kn σ := kn_wI o2
  have e5 := FB_set (K := K) (σ' := mm_wI σ F i j 1) o1 o2 o3 hkn (cb_upI σ F i _ 1) ((cb_upI' σ F i _ 1).trans e4)
  rw [e5] at hP1 hD1
  have := k H1 locs1 ls hl hP1 hD1 hS1
  rw [hkn] at this
  exact this
theorem wb_putf {F i j idx : Nat} {fn : Bool} {v : Int32} {k : Mem → RR} (G : GB K Γ cc own nL fr lo) (E : EndsB K Γ "<init>" kB kE q) (fs : FiB own idx F j fn) (d : decode cc pc = .ok (.putfield idx, 3)) (h : bb_pf σ F i j v k = some fin) (kk : ∀ s, k s = some fin → WB K Γ s (pc + 3) L S) : WB K Γ σ pc L (.int v :: .ref (aa K F i) :: S) := by
  obtain ⟨⟨o1, o2, o3⟩, h⟩ := bb_on_some h
  have k := kk _ h
  obtain ⟨ci, C, T, N, ty0, hc, hj, hin, hlink, hct, hty, hnm, hfn, hdc, hpd⟩ := fs
  obtain ⟨p, l, e, R, s, m, args, below, meth, c, Q, c0, s0⟩ := Γ
  obtain ⟨hx, hb, hml, hown, hts, hK, hR, hlk, hA, hRm, hAO, hz⟩ := G
  obtain ⟨rfl, hrt, hmn, rfl, rfl, hq⟩ := E
  intro H locs ls hl hP hD hS
  obtain ⟨fl, e1, e3, e4⟩ := hct K i (σ.1 F i) (σ.2 F i)
  have hkn : kn (mm_wI σ F i j v) = kn σ := kn_wI o2
  have e5 := FB_set (K := K) (σ' := mm_wI σ F i j v) o1 o2 o3 hkn (cb_upI σ F i _ v) ((cb_upI' σ F i _ v).trans (e4 v))
  cases fn with
  | true =>
    refine va_putF hx hb hts hin ty0 hty hnm hown hK hP hD hS (tb_op F i) ((FB_at o1 o2 o3).trans (by show some (_, cbR K F i (σ.1 F i) (σ.2 F i)) = _; rw [e1])) hc j hj (hts _ hlink) (fun _ z => z) hfn hmn hdc hpd rfl rfl e3 d (fun H1 locs1 hP1 hD1 hS1 => ?_)
    rw [e5] at hP1 hD1
    have := k H1 locs1 ls hl hP1 hD1 hS1
    rw [hkn] at this
    exact this
  | false =>
    refine va_put hx hb hts hin ty0 hty hnm hown hK hP hD hS (tb_op F i) ((FB_at o1 o2 o3).trans (by show some (_, cbR K F i (σ.1 F i) (σ.2 F i)) = _; rw [e1])) hc j hj (hts _ hlink) (fun _ z => z) hfn hpd rfl rfl e3 d (fun H1 locs1 hP1 hD1 hS1 => ?_)
    rw [e5] at hP1 hD1
    have := k H1 locs1 ls hl hP1 hD1 hS1
    rw [hkn] at this
    exact this
def AiB (F N : Nat) : Prop := ∀ K i r z, cbR K F i r z = .inl (K.2.2.1 0, N, .inl r)
theorem wb_iastore {F i N : Nat} {x v : Int32} {k : Mem → RR} (G : GB K Γ cc own nL fr lo) (ar : AiB F N) (d : decode cc pc = .ok (.iastore, 1)) (h : bb_st σ F i N x v k = some fin) (kk : ∀ s, k s = some fin → WB K Γ s (pc + 1) L S) : WB K Γ σ pc L (.int v :: .int x :: .ref (aa K F i) :: S) := by
  obtain ⟨⟨o1, o2, o3⟩, h⟩ := bb_on_some h
  by_cases hin : x < 0 ∨ N ≤ x.toNatClampNeg
  · rw [mm_st, if_pos hin] at h; exact nomatch h
  rw [mm_st, if_neg hin] at h
  have k := kk _ h
  obtain ⟨p, l, e, R, s, m, args, below, meth, c, Q, c0, s0⟩ := Γ
  obtain ⟨hx, hb, hml, hown, hts, hK, hR, hlk, hA, hRm, hAO, hz⟩ := G
  intro H locs ls hl hP hD hS
  refine va_iast hx hb hK hP hD hS (tb_op F i) 0 ((FB_at o1 o2 o3).trans (by show some (_, cbR K F i (σ.1 F i) (σ.2 F i)) = _; rw [ar])) rfl hin d (fun H1 locs1 hP1 hD1 hS1 => ?_)
  have hkn : kn (mm_wI σ F i x.toNatClampNeg v) = kn σ := kn_wI o2
  have e1 := FB_set (K := K) (σ' := mm_wI σ F i x.toNatClampNeg v) o1 o2 o3 hkn (cb_upI σ F i _ v) ((cb_upI' σ F i _ v).trans (ar K i _ _))
  rw [e1] at hP1 hD1
  have := k H1 locs1 ls hl hP1 hD1 hS1
  rw [hkn] at this
  exact this
def AqB (F N t F2 : Nat) (g : Nat → Nat → Nat) : Prop := ∃ (ci : Nat) (r : vw_C), vwCl[ci]? = some r ∧ (∀ tc : Nat → ClassId, (tyL tc)[t]? = some (tc t, .object r.1)) ∧ (∀ K i r z, cbR K F i r z = .inl (K.2.2.1 t, N, .inr (.inr (.inr (.inr (fun j => if r j = 0 then none else some (aa K F2 (g i j)))))))) ∧ ∀ K i r z, ∃ fl, cbR K F2 i r z = .inr (ci, fl)
theorem wb_aastore {F i N t F2 : Nat} {g : Nat → Nat → Nat} {x : Int32} {k : Mem → RR} (G : GB K Γ cc own nL fr lo) (ar : AqB F N t F2 g) (d : decode cc pc = .ok (.aastore, 1)) (h : bb_on σ F2 (g i x.toNatClampNeg) (bb_sr σ F i N x k) = some fin) (kk : ∀ s, k s = some fin → WB K Γ s (pc + 1) L S) : WB K Γ σ pc L (.ref (aa K F2 (g i x.toNatClampNeg)) :: .int x :: .ref (aa K F i) :: S) := by
  obtain ⟨⟨p1, p2, p3⟩, h⟩ := bb_on_some h
  obtain ⟨⟨o1, o2, o3⟩, h⟩ := bb_on_some h
  by_cases hin : x < 0 ∨ N ≤ x.toNatClampNeg
  · rw [if_pos hin] at h; exact nomatch h
  rw [if_neg hin] at h
  have k := kk _ h
  obtain ⟨ci, rr, a1, a2, a3, a4⟩ := ar
  obtain ⟨fl, a4⟩ := a4 K (g i x.toNatClampNeg) (σ.1 F2 (g i x.toNatClampNeg)) (σ.2 F2 (g i x.toNatClampNeg))
  obtain ⟨p, l, e, R, s, m, args, below, meth, c, Q, c0, s0⟩ := Γ
  obtain ⟨hx, hb, hml, hown, hts, hK, hR, hlk, hA, hRm, hAO, hz⟩ := G
  intro H locs ls hl hP hD hS
  refine va_astq (f := fun j => if σ.1 F i j = 0 then none else some (aa K F2 (g i j))) (vs := fl) hx hb hK hP hD hS (tb_op F i) t (tb_op F2 (g i x.toNatClampNeg)) ci ((FB_at o1 o2 o3).trans (by show some (_, cbR K F i (σ.1 F i) (σ.2 F i)) = _; rw [a3])) (a2 _) ((FB_at p1 p2 p3).trans (by show some (_, cbR K F2 _ _ _) = _; rw [a4])) a1 hin d (fun H1 locs1 hP1 hD1 hS1 => ?_)
  have hkn : kn (mm_wI σ F i x.toNatClampNeg 1) = kn σ := kn_wI o2
  have hsm : cb K (mm_wI σ F i x.toNatClampNeg 1) F i = .inl (K.2.2.1 t, N, .inr (.inr (.inr (.inr (va_up (fun j => if σ.1 F i j = 0 then none else some (aa K F2 (g i j))) x.toNatClampNeg (some (aa K F2 (g i x.toNatClampNeg)))))))) := by
    rw [cb_upI', a3]
    congr 7
    funext j
    unfold va_up upd
    by_cases hj : j = x.toNatClampNeg
    · subst hj
      rw [if_pos rfl, if_pos rfl, if_neg (by decide)]
    · rw [if_neg hj, if_neg hj]
  have e1 := FB_set (K := K) (σ' := mm_wI σ F i x.toNatClampNeg 1) o1 o2 o3 hkn (cb_upI σ F i _ 1) hsm
  rw [e1] at hP1 hD1
  have := k H1 locs1 ls hl hP1 hD1 hS1
  rw [hkn] at this
  exact this
theorem wb_alen {F i N : Nat} {a : RR} (G : GB K Γ cc own nL fr lo) (ar : AiB F N) (d : decode cc pc = .ok (.arraylength, 1)) (h : bb_on σ F i a = some fin) (k : a = some fin → WB K Γ σ (pc + 1) L (.int (nI N) :: S)) : WB K Γ σ pc L (.ref (aa K F i) :: S) := by
  obtain ⟨⟨o1, o2, o3⟩, h⟩ := bb_on_some h
  have k := k h
  obtain ⟨p, l, e, R, s, m, args, below, meth, c, Q, c0, s0⟩ := Γ
  obtain ⟨hx, hb, hml, hown, hts, hK, hR, hlk, hA, hRm, hAO, hz⟩ := G
  intro H locs ls hl hP hD hS
  exact va_alen (x := (N, .inl (σ.1 F i))) hx hb hK hP (tb_op F i) 0 ((FB_at o1 o2 o3).trans (by show some (_, cbR K F i (σ.1 F i) (σ.2 F i)) = _; rw [ar])) rfl rfl d (k H locs ls hl hP hD hS)
-- Object's own constructor
def Oi (own : String) (idx : Nat) : Prop := Cond.methodLink own idx objectInit ∈ wAll ∧ Cond.instanceMethod objectInit ∈ wAll ∧ Cond.code objectInit ⟨#[0xb1]⟩ 1 none ∈ wAll
theorem wb_objinit {idx a : Nat} (G : GB K Γ cc own nL fr lo) (oi : Oi own idx) (hf : 1 ≤ fr ∧ 20 ≤ lo) (hw : (S.map fun v => v.category).sum ≤ 8) (d : decode cc pc = .ok (.invokespecial idx, 3)) (k : WB K Γ σ (pc + 3) L S) : WB K Γ σ pc L (.ref a :: S) := by
  obtain ⟨p, l, e, R, s, m, args, below, meth, c, Q, c0, s0⟩ := Γ
  obtain ⟨hx, hb, hml, hown, hts, hK, hR, hlk, hA, hRm, hAO, hz⟩ := G
  intro H locs ls hl hP hD hS
  refine W.objInit hx hb hown (hts _ oi.1) (hts _ oi.2.1) (hts _ oi.2.2) rfl hl.1 rfl d (Nat.le_trans hf.1 hR.1) (by have := hR.2; have := hf.2; show 2 * 0 + _ + 12 ≤ _; omega) ?_
  exact k H locs ls hl hP hD hS
theorem AOs.moved {U V : State} (h : AOs U) (ha : U.vm.Alike V.vm) : AOs V := fun C hC => va_AO.moved ha (h C hC)
theorem BWd.moved {σ : Mem} {U V : State} (h : BWd K σ U) (hh : V.heap = U.heap) (ha : U.vm.Alike V.vm) : BWd K σ V := ⟨by rw [hh]; exact h.1, by rw [hh]; exact h.2.1, va_K.moved ha h.2.2.1, h.2.2.2.moved ha⟩
theorem PcB_blind {av : List Value} : FrameBlind (PcB K av σ) := fun a U g mk h => ⟨h.1, h.2.moved rfl (Vm.Alike.refl U.vm)⟩
theorem CtB_of {l : Launch} {y : MethodName} {b : ByteArray} {mL : Nat} {av : List Value} {L : List (Nat × Value)} (hy : plainFor y = true) (ho : y.cls = own ∧ y.name = nm) (hlen : (lg_sl av).length ≤ mL) (hL : lv_args 0 av = L)
    (body : ∀ Γ : Cx, kn σ ≤ kn q ∧ kn q ≤ 247 → GB K Γ b own mL fr lo → EndsB K Γ nm (kn σ) (kn q) q → WB K Γ σ 0 L []) : CtB l K y b mL fr lo av σ q := by
  intro hA hk9
  have hk := hk9.1
  obtain ⟨rfl, hin⟩ := ho
  subst hL
  refine va_MetF (cc := b) (maxL := mL) (ret := none) hy rfl ?_
  intro p e s m args below meth c s₁ B hml hv
  obtain ⟨rfl, hP, hsz, hK, hAO⟩ := hv
  have hts := atoms_spec (ws := Cond.code y b mL none :: wAll) B.pre
  have hmn : meth.name = nm := by rw [(name_of_methodNamed B.named B.method).1]; exact hin
  rw [lg_entry_eq]
  have := body (p, l, e, ({ frames := fr, cells := kn q - kn σ, slots := SL (kn q) - SL (kn σ), locals := lo } : Room), s, m, av.toArray, below, meth, c, MQ below (QcB K q) av.toArray s (kn q - kn σ) (SL (kn q) - SL (kn σ)) (AB K), kn σ, kn q) hk9
    ⟨B.exec, B.bytes, hml, findClass_of_methodNamed B.named, fun w h => hts w (List.mem_cons_of_mem _ h), hK, ⟨Nat.le_refl _, Nat.le_refl _⟩, B.notSynchronized, hA, ⟨by show kn q ≤ kn q - kn σ + kn σ; omega, by have := SL_mono hk; show SL (kn q) ≤ SL (kn q) - SL (kn σ) + SL (kn σ); omega⟩, hAO, hsz⟩
    ⟨rfl, B.returns, hmn, rfl, rfl, rfl⟩ s.heap [] _ (by rw [hml]; exact lv_entry av hlen) hP (FB_D hA) va_S.rf
  rw [Nat.sub_self, Nat.sub_self] at this
  exact this
theorem wb_vret (G : GB K Γ cc own nL fr lo) (E : EndsB K Γ nm kB kE q) (d : decode cc pc = .ok (.return_, 1)) (hk : kB ≤ kE ∧ kE ≤ 247) (h : mm_rv σ = some (.inr none, q)) : WB K Γ σ pc L [] := by
  obtain rfl : σ = q := congrArg Prod.snd (Option.some.inj h)
  obtain ⟨p, l, e, R, s, m, args, below, meth, c, Q, c0, s0⟩ := Γ
  obtain ⟨hx, hb, hml, hown, hts, hK, hR, hlk, hA, hRm, hAO, hz⟩ := G
  obtain ⟨rfl, hrt, hmn, rfl, rfl, rfl⟩ := E
  intro H locs ls hl hP hD hS
  refine W_sized fun hle => ?_
  have hsz : H.size = K.1 + kn σ := wb_size hA hP hS.1 hz hk.1 hk.2 hle
  exact W.vret hx hb hrt (fun t ht hW => ⟨rfl, ⟨by rw [ht]; exact hP, by rw [ht]; exact hsz, va_K.moved hW.alike hK, hAO.moved hW.alike⟩, hS.F ht⟩) hS.2.2 d hlk
theorem bb_cV_some {kB kE kE1 : Nat} {a : RR} {k : Mem → RR} (h : bb_cV kB kE kE1 a σ k = some fin) : ∃ q1, a = some (.inr none, q1) ∧ (kB ≤ kn σ ∧ kn σ ≤ kE1 ∧ kE1 ≤ kE ∧ kn q1 = kE1) ∧ k q1 = some fin := by
  unfold bb_cV at h
  split at h
  · split at h
    · exact ⟨_, rfl, by assumption, h⟩
    · cases h
  · cases h
-- a call of a constructor, or of Arrays.fill
theorem wb_ran {p : Program} {l : Launch} {e : Env} {R : Room} {s : State} {m : MethodId} {args : Array Value} {below : List Frame} {meth : Method} {c : Code} {H : Heap} {locs : List Loc} {cells slots mc ms : Nat} {Q : State → Prop} {ls : Array Slot} {st0 rest : List Value} {a : Array Value} {q1 : Mem}
    (hr : va_Run p l e R s m args below meth c H locs cells slots mc ms (F0 m pc ls st0) rest (QcB K q1 a) (AB K)) (hS : va_S (AB K) s.heap H locs) (hA : KA K)
    (kk : ∀ (H1 : Heap) (locs1 : List Loc), va_P K.2.1 vwCl (FB K q1) H1 → va_S (AB K) s.heap H1 locs1 → W p l e R s m args below meth c H1 locs1 (cells + mc) (slots + ms) Q (F0 m (pc + 3) ls rest)) :
    W p l e R s m args below meth c H locs cells slots Q (F0 m pc ls st0) := by
  intro T hT X
  obtain ⟨v, st₀, t, T', L, h0, X', hL, e1, e2, ⟨hv, hW, hF⟩, st⟩ := hr T hT X
  cases hv
  obtain ⟨hz, hk⟩ := hF
  rw [h0] at hz hk
  have hS' : va_S (AB K) s.heap T'.heap (locs ++ L) := ⟨Nat.le_trans hS.1 (by rw [e1]; exact hz), fun q h1 h2 => by rw [e1, hk q (Nat.lt_of_lt_of_le h1 hS.1) h2]; exact hS.2.1 q h1 h2, fun q hq => (List.mem_append.mp hq).elim (hS.2.2 q) (hL q)⟩
  obtain ⟨t2, a1, b1⟩ := kk T'.heap (locs ++ L) (by rw [e1]; exact hW.1) hS' T' rfl X'
  exact ⟨t2, st t2 a1, b1⟩
theorem wb_sums {c0 s0 k kE1 : Nat} {R : Room} (h : s0 ≤ R.cells + c0 ∧ SL s0 ≤ R.slots + SL c0) (h1 : c0 ≤ k) (h2 : k ≤ kE1) (h3 : kE1 ≤ s0) : (k - c0 + (kE1 - k) ≤ R.cells ∧ SL k - SL c0 + (SL kE1 - SL k) ≤ R.slots) ∧ k - c0 + (kE1 - k) = kE1 - c0 ∧ SL k - SL c0 + (SL kE1 - SL k) = SL kE1 - SL c0 := by
  have a1 := SL_mono h1
  have a2 := SL_mono h2
  have a3 := SL_mono h3
  omega
def CsI (own : String) (idx : Nat) (y : MethodName) (b : ByteArray) (mL na : Nat) : Prop := Cond.methodLink own idx y ∈ wAll ∧ Cond.instanceMethod y ∈ wAll ∧ Cond.initialized y.cls ∈ wAll ∧ Cond.code y b mL none ∈ wAll ∧ y.name = "<init>" ∧ (y.cls ≠ "java/lang/invoke/MethodHandle" ∧ y.cls ≠ "java/lang/invoke/VarHandle" ∧ (parseMethodDescriptor y.desc).map (fun d => d.parameters.length) = some na)
theorem wb_callI {As rest : List Value} {F i idx na kE1 : Nat} {y : MethodName} {b1 : ByteArray} {mL fr1 lo1 : Nat} {X : RR} {k : Mem → RR} (G : GB K Γ cc own nL fr lo) (E : EndsB K Γ nm kB kE q) (cs : CsI own idx y b1 mL na) (hC : ∀ q1, X = some (.inr none, q1) → kn q1 = kE1 → CtB (Γ.2.1) K y b1 mL fr1 lo1 (.ref (aa K F i) :: As) σ q1)
    (hS0 : S = As.reverse ++ .ref (aa K F i) :: rest) (hn : As.length = na) (hw : (rest.map fun v => v.category).sum ≤ 8) (d : decode cc pc = .ok (.invokespecial idx, 3)) (hR : fr1 + 1 ≤ fr ∧ 8 + (mL + 11) + lo1 ≤ lo) (h247 : kE ≤ 247) (h : bb_cV kB kE kE1 X σ k = some fin) (kk : ∀ s, k s = some fin → WB K Γ s (pc + 3) L rest) : WB K Γ σ pc L S := by
  subst hS0
  obtain ⟨q1, hX, ⟨h1, h2, h3, h4⟩, h⟩ := bb_cV_some h
  have k := kk _ h
  have hC := hC q1 hX h4
  obtain ⟨p, l, e, R, s, m, args, below, meth, c, Q, c0, s0⟩ := Γ
  obtain ⟨hx, hb, hml, hown, hts, hK, hRR, hlk, hA, hRm, hAO, hz⟩ := G
  obtain ⟨rfl, hrt, hmn, rfl, rfl, hq⟩ := E
  obtain ⟨w1, w2, w3, w4, w5, w6⟩ := cs
  intro H locs ls hl hP hD hS
  refine W_sized fun hle => ?_
  have hsz : H.size = K.1 + kn σ := wb_size hA hP hS.1 hz h1 (by omega) hle
  obtain ⟨g1, g2, g3⟩ := wb_sums hRm h1 h2 h3
  have hM := hC hA ⟨by omega, by omega⟩
  have hcw := cwI (R := R) (rm := { frames := fr1, cells := kn q1 - kn σ, slots := SL (kn q1) - SL (kn σ), locals := lo1 }) (ws := Cond.code y b1 mL none :: wAll) na hts (gd_of fun w hw' => (List.mem_cons.mp hw').elim (fun e9 => e9 ▸ w4) (fun z => z)) rfl rfl rfl (hts _ w3) (hts _ w1) (hts _ w2) w5 w6 ⟨Nat.le_trans hR.1 hRR.1, Nat.le_trans hR.2 hRR.2⟩
  have hrun := va_runI (As := As) (rest := rest) (b := aa K F i) (g := F0 m pc ls (As.reverse ++ .ref (aa K F i) :: rest)) ⟨hx, hb, rfl, hown, hts⟩ hM hcw ⟨PcB_blind, fun U hU hW => ⟨rfl, by rw [hU]; exact hP, by rw [hU]; exact hsz, va_K.moved hW.alike hK, hAO.moved hW.alike⟩⟩ rfl hn hl.1 rfl (lv_room hw) d (cells := kn σ - c0) (slots := SL (kn σ) - SL c0) (locs := locs) (below := below) (meth := meth) (e := e) (by rw [h4]; exact g1)
  refine wb_ran hrun hS hA (fun H1 locs1 hP1 hS1 => ?_)
  have := k H1 locs1 ls hl hP1 (FB_D hA) hS1
  rw [h4] at this ⊢
  rw [g2, g3]
  exact this
theorem wb_callS {As rest : List Value} {idx na kE1 : Nat} {y : MethodName} {b1 : ByteArray} {mL fr1 lo1 : Nat} {X : RR} {k : Mem → RR} (G : GB K Γ cc own nL fr lo) (E : EndsB K Γ nm kB kE q) (cs : CsS own idx y b1 mL none na) (hC : ∀ q1, X = some (.inr none, q1) → kn q1 = kE1 → CtB (Γ.2.1) K y b1 mL fr1 lo1 As σ q1)
    (hS0 : S = As.reverse ++ rest) (hn : As.length = na) (hw : (rest.map fun v => v.category).sum ≤ 8) (d : decode cc pc = .ok (.invokestatic idx, 3)) (hR : fr1 + 1 ≤ fr ∧ 8 + (mL + 11) + lo1 ≤ lo) (h247 : kE ≤ 247) (h : bb_cV kB kE kE1 X σ k = some fin) (kk : ∀ s, k s = some fin → WB K Γ s (pc + 3) L rest) : WB K Γ σ pc L S := by
  subst hS0
  obtain ⟨q1, hX, ⟨h1, h2, h3, h4⟩, h⟩ := bb_cV_some h
  have k := kk _ h
  have hC := hC q1 hX h4
  obtain ⟨p, l, e, R, s, m, args, below, meth, c, Q, c0, s0⟩ := Γ
  obtain ⟨hx, hb, hml, hown, hts, hK, hRR, hlk, hA, hRm, hAO, hz⟩ := G
  obtain ⟨rfl, hrt, hmn, rfl, rfl, hq⟩ := E
  intro H locs ls hl hP hD hS
  refine W_sized fun hle => ?_
  have hsz : H.size = K.1 + kn σ := wb_size hA hP hS.1 hz h1 (by omega) hle
  obtain ⟨g1, g2, g3⟩ := wb_sums hRm h1 h2 h3
  have hM := hC hA ⟨by omega, by omega⟩
  have hcw := va_cwS (R := R) (rm := { frames := fr1, cells := kn q1 - kn σ, slots := SL (kn q1) - SL (kn σ), locals := lo1 }) (ws := Cond.code y b1 mL none :: wAll) na hts cs.1 rfl rfl rfl cs.2 ⟨Nat.le_trans hR.1 hRR.1, Nat.le_trans hR.2 hRR.2⟩
  have hrun := va_runS (As := As) (rest := rest) (g := F0 m pc ls (As.reverse ++ rest)) ⟨hx, hb, rfl, hown, hts⟩ hM hcw ⟨PcB_blind, fun U hU hW => ⟨rfl, by rw [hU]; exact hP, by rw [hU]; exact hsz, va_K.moved hW.alike hK, hAO.moved hW.alike⟩⟩ rfl hn hl.1 rfl (lv_room hw) d (cells := kn σ - c0) (slots := SL (kn σ) - SL c0) (locs := locs) (below := below) (meth := meth) (e := e) (by rw [h4]; exact g1)
  refine wb_ran hrun hS hA (fun H1 locs1 hP1 hS1 => ?_)
  have := k H1 locs1 ls hl hP1 (FB_D hA) hS1
  rw [h4] at this ⊢
  rw [g2, g3]
  exact this
end VBuild2

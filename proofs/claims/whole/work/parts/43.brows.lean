section VBuild
variable {K : KK} {Γ : Cx} {cc : ByteArray} {own : String} {nL fr lo : Nat} {σ : Mem} {pc : Nat} {L : List (Nat × Value)} {S : List Value} {fin : Oc × Mem} {q : Mem} {kB kE : Nat} {nm : String}
set_option maxRecDepth 100000 in
theorem tb_ok : ∀ F, F < 72 → ∀ i, i < cnt F → tb_ord[tb_op F i]? = some (F, i) := by decide +kernel
set_option maxRecDepth 100000 in
theorem tb_oi0 : (List.range tb_ord.length).all (fun j => match tb_ord[j]? with | some c => tb_op c.1 c.2 == j && decide (c.1 < 72) | none => true) = true := by decide +kernel
set_option maxRecDepth 100000 in
theorem tb_olen : tb_ord.length = 247 := by decide +kernel
theorem tb_oi : ∀ (j : Nat) (c : Nat × Nat), tb_ord[j]? = some c → tb_op c.1 c.2 = j ∧ c.1 < 72 ∧ j < 247 := by
  intro j c h
  have hj : j < tb_ord.length := (List.getElem?_eq_some_iff.mp h).1
  have h1 := List.all_eq_true.mp tb_oi0 j (List.mem_range.mpr hj)
  rw [h] at h1
  simp only [Bool.and_eq_true, beq_iff_eq, decide_eq_true_eq] at h1
  exact ⟨h1.1, h1.2, by rw [← tb_olen]; exact hj⟩
theorem FB_get {j : Nat} {c : Nat × Nat} (h : tb_ord[j]? = some c) (hj : j < kn σ) : (FB K σ)[j]? = some (aa K c.1 c.2, cb K σ c.1 c.2) := by
  unfold FB
  rw [List.getElem?_map, List.getElem?_take, if_pos hj, h]
  rfl
theorem FB_inv {j : Nat} {z : Nat × va_E} (h : (FB K σ)[j]? = some z) : ∃ c, tb_ord[j]? = some c ∧ j < kn σ ∧ z = (aa K c.1 c.2, cb K σ c.1 c.2) := by
  unfold FB at h
  rw [List.getElem?_map, List.getElem?_take] at h
  by_cases hj : j < kn σ
  · rw [if_pos hj] at h
    cases hc : tb_ord[j]? with
    | none => rw [hc] at h; cases h
    | some c => rw [hc] at h; exact ⟨c, rfl, hj, (Option.some.inj h).symm⟩
  · rw [if_neg hj] at h; cases h
theorem FB_at {F i : Nat} (hp : tb_op F i < kn σ) (hF : F < 72) (hi : i < cnt F) : (FB K σ)[tb_op F i]? = some (aa K F i, cb K σ F i) := FB_get (c := (F, i)) (tb_ok F hF i hi) hp
theorem FB_D (hA : KA K) : va_D (AB K) (FB K σ) := by
  refine ⟨fun i j p q h1 h2 h3 => ?_, fun k q h => ?_⟩
  · obtain ⟨c, e1, -, rfl⟩ := FB_inv h1
    obtain ⟨d, e2, -, rfl⟩ := FB_inv h2
    have a1 := hA i c e1
    have a2 := hA j d e2
    simp only at h3
    omega
  · obtain ⟨c, e1, -, rfl⟩ := FB_inv h
    have a1 := hA k c e1
    show K.1 ≤ aa K c.1 c.2
    omega
theorem FB_set {σ' : Mem} {F i : Nat} {e : va_E} (hp : tb_op F i < kn σ) (hF : F < 72) (hi : i < cnt F) (hk : kn σ' = kn σ) (ho : ∀ F' i', ¬ (F' = F ∧ i' = i) → cb K σ' F' i' = cb K σ F' i') (hs : cb K σ' F i = e) :
    (FB K σ).set (tb_op F i) (aa K F i, e) = FB K σ' := by
  have hat := FB_at (K := K) hp hF hi
  have hlt : tb_op F i < (FB K σ).length := (List.getElem?_eq_some_iff.mp hat).1
  apply List.ext_getElem?
  intro j
  rw [List.getElem?_set]
  by_cases hj : tb_op F i = j
  · subst hj
    rw [if_pos rfl, if_pos hlt, FB_at (by rw [hk]; exact hp) hF hi, hs]
  · rw [if_neg hj]
    cases hc : (FB K σ)[j]? with
    | none =>
      cases hc' : (FB K σ')[j]? with
      | none => rfl
      | some z =>
        obtain ⟨c, e1, e2, rfl⟩ := FB_inv hc'
        rw [FB_get e1 (by rw [← hk]; exact e2)] at hc
        cases hc
    | some z =>
      obtain ⟨c, e1, e2, rfl⟩ := FB_inv hc
      rw [FB_get e1 (by rw [hk]; exact e2), ho c.1 c.2 (fun hh => hj (by
        have := (tb_oi j c e1).1
        rw [hh.1, hh.2] at this
        exact this))]
theorem kn_zr {F i : Nat} (h : kn σ < 1000) : kn (bb_zr σ F i) = kn σ + 1 := by
  show (nI (kn σ + 1)).toNatClampNeg = _
  exact nI_clamp (by omega)
theorem FB_push {F i : Nat} (h : tb_ord[kn σ]? = some (F, i)) : FB K (bb_zr σ F i) = FB K σ ++ [(aa K F i, cbR K F i (fun _ => 0) (fun _ => 0))] := by
  obtain ⟨h1, h2, h3⟩ := tb_oi _ _ h
  have hk : kn (bb_zr σ F i) = kn σ + 1 := kn_zr (by omega)
  have hlen : (FB K σ).length = kn σ := by
    unfold FB
    rw [List.length_map, List.length_take, tb_olen]
    omega
  apply List.ext_getElem?
  intro j
  by_cases hj : j < kn σ
  · rw [List.getElem?_append_left (by omega)]
    obtain ⟨c, hc⟩ : ∃ c, tb_ord[j]? = some c := ⟨_, List.getElem?_eq_getElem (by rw [tb_olen]; omega)⟩
    rw [FB_get hc (by omega), FB_get hc hj]
    obtain ⟨g1, g2, g3⟩ := tb_oi _ _ hc
    have hne : ¬ (c.1 = F ∧ c.2 = i) := fun hh => by rw [hh.1, hh.2, h1] at g1; omega
    have h99 : ¬ (c.1 = 99 ∧ c.2 = 0) := fun hh => by omega
    have r1 : (bb_zr σ F i).1 c.1 c.2 = σ.1 c.1 c.2 := by
      funext k
      show (if c.1 = 99 ∧ c.2 = 0 ∧ k = 0 then _ else if c.1 = F ∧ c.2 = i then 0 else σ.1 c.1 c.2 k) = _
      rw [if_neg (fun hh => h99 ⟨hh.1, hh.2.1⟩), if_neg hne]
    have r2 : (bb_zr σ F i).2 c.1 c.2 = σ.2 c.1 c.2 := by
      funext k
      exact if_neg hne
    show some (_, cbR K c.1 c.2 ((bb_zr σ F i).1 c.1 c.2) ((bb_zr σ F i).2 c.1 c.2)) = some (_, cbR K c.1 c.2 (σ.1 c.1 c.2) (σ.2 c.1 c.2))
    rw [r1, r2]
  · rw [List.getElem?_append_right (by omega), hlen]
    by_cases hj' : j = kn σ
    · subst hj'
      rw [FB_get h (by omega), Nat.sub_self]
      have h99 : ¬ (F = 99 ∧ i = 0) := fun hh => by have := h2; simp only at this; omega
      have r1 : (bb_zr σ F i).1 F i = fun _ => 0 := by
        funext k
        show (if F = 99 ∧ i = 0 ∧ k = 0 then _ else if F = F ∧ i = i then 0 else σ.1 F i k) = _
        rw [if_neg (fun hh => h99 ⟨hh.1, hh.2.1⟩), if_pos ⟨rfl, rfl⟩]
      have r2 : (bb_zr σ F i).2 F i = fun _ => 0 := by
        funext k
        exact if_pos ⟨rfl, rfl⟩
      show some (_, cbR K F i ((bb_zr σ F i).1 F i) ((bb_zr σ F i).2 F i)) = _
      rw [r1, r2]
      rfl
    · have hn : (FB K (bb_zr σ F i))[j]? = none := by
        cases hc' : (FB K (bb_zr σ F i))[j]? with
        | none => rfl
        | some z => obtain ⟨c, e1, e2, rfl⟩ := FB_inv hc'; omega
      rw [hn]
      have : j - kn σ ≠ 0 := by omega
      obtain ⟨m, hm⟩ := Nat.exists_eq_succ_of_ne_zero this
      rw [hm]
      rfl
theorem SL_mono {a b : Nat} (h : a ≤ b) : SL a ≤ SL b := by
  unfold SL
  obtain ⟨d, rfl⟩ := Nat.exists_eq_add_of_le h
  rw [List.take_add, List.map_append, List.sum_append]
  omega
theorem SL_succ {n : Nat} {c : Nat × Nat} (h : tb_ord[n]? = some c) : SL (n + 1) = SL n + tb_sz c.1 := by
  unfold SL
  rw [List.take_add_one, h, List.map_append, List.sum_append]
  simp
theorem bb_on_some {F i : Nat} {a : RR} (h : bb_on σ F i a = some fin) : (tb_op F i < kn σ ∧ F < 72 ∧ i < cnt F) ∧ a = some fin := by
  unfold bb_on at h
  split at h
  · exact ⟨by assumption, h⟩
  · cases h
theorem cb_upI (σ : Mem) (F i k : Nat) (v : Int32) : ∀ F' i', ¬ (F' = F ∧ i' = i) → cb K (mm_wI σ F i k v) F' i' = cb K σ F' i' := by
  intro F' i' h
  have : (mm_wI σ F i k v).1 F' i' = σ.1 F' i' := by
    funext k'
    show (if F' = F ∧ i' = i ∧ k' = k then v else σ.1 F' i' k') = _
    exact if_neg (fun q => h ⟨q.1, q.2.1⟩)
  show cbR K F' i' ((mm_wI σ F i k v).1 F' i') (σ.2 F' i') = cbR K F' i' (σ.1 F' i') (σ.2 F' i')
  rw [this]
theorem cb_upI' (σ : Mem) (F i k : Nat) (v : Int32) : cb K (mm_wI σ F i k v) F i = cbR K F i (upd (σ.1 F i) k v) (σ.2 F i) := by
  have : (mm_wI σ F i k v).1 F i = upd (σ.1 F i) k v := by
    funext k'
    show (if F = F ∧ i = i ∧ k' = k then v else σ.1 F i k') = if k' = k then v else σ.1 F i k'
    by_cases hk : k' = k
    · rw [if_pos ⟨rfl, rfl, hk⟩, if_pos hk]
    · rw [if_neg (fun q => hk q.2.2), if_neg hk]
  show cbR K F i ((mm_wI σ F i k v).1 F i) (σ.2 F i) = _
  rw [this]
theorem kn_wI {F i k : Nat} {v : Int32} (hF : F < 72) : kn (mm_wI σ F i k v) = kn σ := by
  show (if 99 = F ∧ 0 = i ∧ 0 = k then v else σ.1 99 0 0).toNatClampNeg = _
  rw [if_neg (fun q => by omega)]
  rfl
-- the heap's size: no more than was made, no less than the last cell
theorem W_sized {p : Program} {l : Launch} {e : Env} {R : Room} {s : State} {m : MethodId} {args : Array Value} {below : List Frame} {meth : Method} {c : Code} {H : Heap} {locs : List Loc} {cells slots : Nat} {Q : State → Prop} {g : JFrame} (k : H.size ≤ s.heap.size + cells → W p l e R s m args below meth c H locs cells slots Q g) : W p l e R s m args below meth c H locs cells slots Q g := fun T hT X => k (by rw [← hT]; exact X.heapSize) T hT X
theorem wb_size {H H0 : Heap} {c0 : Nat} (hA : KA K) (hP : va_P K.2.1 vwCl (FB K σ) H) (h0 : H0.size ≤ H.size) (hs : H0.size = K.1 + c0) (h1 : c0 ≤ kn σ) (h2 : kn σ ≤ 247) (hle : H.size ≤ H0.size + (kn σ - c0)) : H.size = K.1 + kn σ := by
  by_cases hk : kn σ = c0
  · omega
  · obtain ⟨c, hc⟩ : ∃ c, tb_ord[kn σ - 1]? = some c := ⟨_, List.getElem?_eq_getElem (by rw [tb_olen]; omega)⟩
    have h3 := (hP _ _ (FB_get (K := K) hc (by omega))).lt
    have h4 := hA _ _ hc
    simp only at h3
    omega
-- a new object
def Bn (own : String) (idx F : Nat) : Prop := ∃ (ci : Nat) (C : String) (T : u_T) (ty : Nat → FieldType) (fs : List Value), vwCl[ci]? = some (C, T, tb_sz F) ∧ (∀ w ∈ u_ws C T (tb_sz F), w ∈ wAll) ∧ (∀ k, k < tb_sz F → parseFieldDescriptor (T k).2.2.1 = some (ty k)) ∧ Cond.classLink own idx C ∈ wAll ∧ Cond.instantiable C (tb_sz F) ∈ wAll ∧ Cond.initialized C ∈ wAll ∧ (∀ j, j < tb_sz F → defaultValue (ty j) = vp_V fs j) ∧ ∀ K i, cbR K F i (fun _ => 0) (fun _ => 0) = .inr (ci, fs)
theorem wb_room {c0 s0 k : Nat} {R : Room} (h : s0 ≤ R.cells + c0 ∧ SL s0 ≤ R.slots + SL c0) (h1 : c0 ≤ k) (h2 : k < s0) {c : Nat × Nat} (h3 : tb_ord[k]? = some c) : k - c0 + 1 ≤ R.cells ∧ SL k - SL c0 + tb_sz c.1 ≤ R.slots ∧ k - c0 + 1 = k + 1 - c0 ∧ SL k - SL c0 + tb_sz c.1 = SL (k + 1) - SL c0 := by
  have a1 := SL_mono h1
  have a2 := SL_succ h3
  have a3 : SL (k + 1) ≤ SL s0 := SL_mono h2
  omega
theorem wb_new {F i idx : Nat} {k : Mem → RR} (G : GB K Γ cc own nL fr lo) (E : EndsB K Γ nm kB kE q) (bn : Bn own idx F) (d : decode cc pc = .ok (.new idx, 3)) (h : bb_nw kB kE F i σ k = some fin) (kk : ∀ s, k s = some fin → WB K Γ s (pc + 3) L (.ref (aa K F i) :: S)) : WB K Γ σ pc L S := by
  unfold bb_nw at h
  split at h
  case isFalse => cases h
  rename_i hc
  obtain ⟨hc1, hc2, hc3⟩ := hc
  have k := kk _ h
  obtain ⟨ci, C, T, ty, fs, b1, b2, b3, b4, b5, b6, b7, b8⟩ := bn
  obtain ⟨p, l, e, R, s, m, args, below, meth, c, Q, c0, s0⟩ := Γ
  obtain ⟨hx, hb, hml, hown, hts, hK, hR, hlk, hA, hRm, hAO, hz⟩ := G
  obtain ⟨rfl, hrt, hnm, rfl, rfl, hq⟩ := E
  intro H locs ls hl hP hDD hS
  refine W_sized fun hle => ?_
  have hD : H.size = K.1 + kn σ := wb_size hA hP hS.1 hz hc1 (by have := (tb_oi _ _ hc3).2.2; omega) hle
  obtain ⟨r1, r2, r3, r4⟩ := wb_room hRm hc1 hc2 hc3
  have hKn := hK.1 ci _ b1
  have hadr : aa K F i = H.size := (hA _ _ hc3).trans hD.symm
  have hkn := kn_zr (σ := σ) (F := F) (i := i) (by have := (tb_oi _ _ hc3).2.2; omega)
  refine W.newcK hx hb hown (hts _ b4) (hts _ b5) (hts _ b6) rfl d r1 r2 hKn.2.1 rfl fun H1 kC hkC e1 z1 o1 => ?_
  have hk : ∀ (k : Nat) (x : Nat × va_E), (FB K σ)[k]? = some x → H1[x.1]? = H[x.1]? := fun k x hx => o1 x.1 ((hP k x hx).lt)
  have hP1 : va_P K.2.1 vwCl (FB K (bb_zr σ F i)) H1 := by
    rw [FB_push hc3]
    refine (hP.kept hk).app (fun k x hx => ?_)
    have hz' : k < 1 := (List.getElem?_eq_some_iff.mp hx).1
    rw [show k = 0 by omega] at hx
    cases hx
    rw [b8, hadr]
    exact ⟨_, b1, (u_born ty hts b2 hKn hkC e1 b3).to b7⟩
  have hS1 : va_S (AB K) s.heap H1 locs := ⟨Nat.le_trans hS.1 (by omega), fun x h1 h2 => (o1 x (Nat.lt_of_lt_of_le h1 hS.1)).trans (hS.2.1 x h1 h2), hS.2.2⟩
  have := k H1 locs ls hl hP1 (FB_D hA) hS1
  rw [hkn] at this
  rw [r3, r4, ← hadr]
  exact this
-- a new array of numbers
def Bi (F N t : Nat) (aty : ArrayType) : Prop := tb_sz F = N ∧ Cond.arrayClass (newarray.typeOf aty) ∈ wAll ∧ (∀ tc : Nat → ClassId, (tyL tc)[t]? = some (tc t, newarray.typeOf aty)) ∧ (∀ (U : State) (c : ClassId), va_RA U c (newarray.typeOf aty) → U.vm.findClass ("[" ++ (newarray.typeOf aty).toString) = some c) ∧ ∀ K i, ∃ a0 : vp_A, cbR K F i (fun _ => 0) (fun _ => 0) = .inl (K.2.2.1 t, a0) ∧ ∀ cA, vp_cell cA a0 = arrV cA N (fun _ => defaultValue (newarray.typeOf aty))
theorem wb_newa {F i N t : Nat} {aty : ArrayType} {x : Int32} {k : Mem → RR} (G : GB K Γ cc own nL fr lo) (E : EndsB K Γ nm kB kE q) (bi : Bi F N t aty) (hx0 : ¬ x < 0 ∧ x.toNatClampNeg = N ∧ N * componentBytes (newarray.typeOf aty) ≤ 536870912) (d : decode cc pc = .ok (.newarray aty, 2)) (h : bb_nw kB kE F i σ k = some fin) (kk : ∀ s, k s = some fin → WB K Γ s (pc + 2) L (.ref (aa K F i) :: S)) : WB K Γ σ pc L (.int x :: S) := by
  unfold bb_nw at h
  split at h
  case isFalse => cases h
  rename_i hc
  obtain ⟨hc1, hc2, hc3⟩ := hc
  have k := kk _ h
  obtain ⟨b1, b2, b3, b4, b5⟩ := bi
  obtain ⟨a0, b5, b6⟩ := b5 K i
  obtain ⟨p, l, e, R, s, m, args, below, meth, c, Q, c0, s0⟩ := Γ
  obtain ⟨hx, hb, hml, hown, hts, hK, hR, hlk, hA, hRm, hAO, hz⟩ := G
  obtain ⟨rfl, hrt, hnm, rfl, rfl, hq⟩ := E
  intro H locs ls hl hP hDD hS
  refine W_sized fun hle => ?_
  have hD : H.size = K.1 + kn σ := wb_size hA hP hS.1 hz hc1 (by have := (tb_oi _ _ hc3).2.2; omega) hle
  obtain ⟨r1, r2, r3, r4⟩ := wb_room hRm hc1 hc2 hc3
  have hadr : aa K F i = H.size := (hA _ _ hc3).trans hD.symm
  have hkn := kn_zr (σ := σ) (F := F) (i := i) (by have := (tb_oi _ _ hc3).2.2; omega)
  refine va_newaK hx hb (hts _ b2) rfl d rfl hx0.1 hx0.2.1 hx0.2.2 r1 (by rw [← b1]; exact r2) rfl fun H1 cA e1 z1 o1 hAr hNm => ?_
  have hcA : cA = K.2.2.1 t := Option.some.inj (hNm.symm.trans (b4 s _ (hK.2 t _ (b3 _)).2))
  subst hcA
  have hk : ∀ (k : Nat) (x : Nat × va_E), (FB K σ)[k]? = some x → H1[x.1]? = H[x.1]? := fun k x hx => o1 x.1 ((hP k x hx).lt)
  have hP1 : va_P K.2.1 vwCl (FB K (bb_zr σ F i)) H1 := by
    rw [FB_push hc3]
    refine (hP.kept hk).app (fun k x hx => ?_)
    have hz' : k < 1 := (List.getElem?_eq_some_iff.mp hx).1
    rw [show k = 0 by omega] at hx
    cases hx
    rw [b5, hadr]
    show H1[H.size]? = some (vp_cell _ _)
    rw [b6]
    exact e1
  have hS1 : va_S (AB K) s.heap H1 locs := ⟨Nat.le_trans hS.1 (by omega), fun x h1 h2 => (o1 x (Nat.lt_of_lt_of_le h1 hS.1)).trans (hS.2.1 x h1 h2), hS.2.2⟩
  have := k H1 locs ls hl hP1 (FB_D hA) hS1
  rw [hkn] at this
  rw [r3, ← b1, r4, ← hadr]
  exact this
-- a new array of references
def Bq (own : String) (idx F N t : Nat) (C : String) : Prop := tb_sz F = N ∧ Cond.classLink own idx C ∈ wAll ∧ C ∈ aoL ∧ (∀ tc : Nat → ClassId, (tyL tc)[t]? = some (tc t, .object C)) ∧ ∀ K i, cbR K F i (fun _ => 0) (fun _ => 0) = .inl (K.2.2.1 t, N, .inr (.inr (.inr (.inr (fun _ => none)))))
theorem wb_newq {F i N t idx : Nat} {C : String} {x : Int32} {k : Mem → RR} (G : GB K Γ cc own nL fr lo) (E : EndsB K Γ nm kB kE q) (bq : Bq own idx F N t C) (hx0 : ¬ x < 0 ∧ x.toNatClampNeg = N ∧ N * 4 ≤ 536870912) (d : decode cc pc = .ok (.anewarray idx, 3)) (h : bb_nw kB kE F i σ k = some fin) (kk : ∀ s, k s = some fin → WB K Γ s (pc + 3) L (.ref (aa K F i) :: S)) : WB K Γ σ pc L (.int x :: S) := by
  unfold bb_nw at h
  split at h
  case isFalse => cases h
  rename_i hc
  obtain ⟨hc1, hc2, hc3⟩ := hc
  have k := kk _ h
  obtain ⟨b1, b2, b3, b4, b5⟩ := bq
  obtain ⟨p, l, e, R, s, m, args, below, meth, c, Q, c0, s0⟩ := Γ
  obtain ⟨hx, hb, hml, hown, hts, hK, hR, hlk, hA, hRm, hAO, hz⟩ := G
  obtain ⟨rfl, hrt, hnm, rfl, rfl, hq⟩ := E
  intro H locs ls hl hP hDD hS
  refine W_sized fun hle => ?_
  have hD : H.size = K.1 + kn σ := wb_size hA hP hS.1 hz hc1 (by have := (tb_oi _ _ hc3).2.2; omega) hle
  obtain ⟨r1, r2, r3, r4⟩ := wb_room hRm hc1 hc2 hc3
  have hadr : aa K F i = H.size := (hA _ _ hc3).trans hD.symm
  have hkn := kn_zr (σ := σ) (F := F) (i := i) (by have := (tb_oi _ _ hc3).2.2; omega)
  obtain ⟨hx1, hx2, hx3⟩ := hx0
  subst hx2
  refine W.anew hx hb hown (hts _ b2) (va_AO.use (hAO _ b3)) rfl d rfl hx1 hx3 r1 (by rw [← b1]; exact r2) fun cA kA comp f1 f2 f3 f4 => ?_
  obtain ⟨kA', comp', g1, g2, g3, g4⟩ := (hK.2 t _ (b4 K.2.2.1)).2
  have hcA : cA = K.2.2.1 t := Option.some.inj (f1.symm.trans g4)
  subst hcA
  generalize hH1 : H.push ({ cls := K.2.2.1 t, slots := Array.replicate x.toNatClampNeg .null, vm := .none } : Cell) = H1
  have z1 : H1.size = H.size + 1 := by rw [← hH1, Array.size_push]
  have e1 : H1[H.size]? = some (arrV (K.2.2.1 t) x.toNatClampNeg (fun _ => .null)) := by rw [← hH1, Array.getElem?_push_size, ← arrV_new]
  have o1 : ∀ q : Nat, q < H.size → H1[q]? = H[q]? := fun q hq => by rw [← hH1, Array.getElem?_push, if_neg (Nat.ne_of_lt hq)]
  have hk : ∀ (k : Nat) (x : Nat × va_E), (FB K σ)[k]? = some x → H1[x.1]? = H[x.1]? := fun k x hx => o1 x.1 ((hP k x hx).lt)
  have hP1 : va_P K.2.1 vwCl (FB K (bb_zr σ F i)) H1 := by
    rw [FB_push hc3]
    refine (hP.kept hk).app (fun k x hx => ?_)
    have hz' : k < 1 := (List.getElem?_eq_some_iff.mp hx).1
    rw [show k = 0 by omega] at hx
    cases hx
    rw [b5, hadr]
    show H1[H.size]? = some (vp_cell _ _)
    rw [vp_cell_q]
    exact e1
  have hS1 : va_S (AB K) s.heap H1 locs := ⟨Nat.le_trans hS.1 (by omega), fun x h1 h2 => (o1 x (Nat.lt_of_lt_of_le h1 hS.1)).trans (hS.2.1 x h1 h2), hS.2.2⟩
  have := k H1 locs ls hl hP1 (FB_D hA) hS1
  rw [hkn] at this
  rw [r3, ← b1, r4, ← hadr]
  exact this
end VBuild

section VPre
variable {K : KK} {Γ : Cx} {cc : ByteArray} {own : String} {nL fr lo : Nat} {σ : Mem} {pc : Nat} {L : List (Nat × Value)} {S : List Value} {fin : Oc × Mem} {kB kE : Nat}
-- the making, in a method that goes on
def EBd (Γ : Cx) (kB kE : Nat) : Prop := match Γ with
  | (_, _, _, _, _, _, _, _, _, _, _, c0, s0) => c0 = kB ∧ s0 = kE
theorem wp_new {F i idx : Nat} {k : Mem → RR} (G : GB K Γ cc own nL fr lo) (E : EBd Γ kB kE) (bn : Bn own idx F) (d : decode cc pc = .ok (.new idx, 3)) (h : bb_nw kB kE F i σ k = some fin) (kk : ∀ s, k s = some fin → WB K Γ s (pc + 3) L (.ref (aa K F i) :: S)) : WB K Γ σ pc L S := by
  unfold bb_nw at h
  split at h
  case isFalse => cases h
  rename_i hc
  obtain ⟨hc1, hc2, hc3⟩ := hc
  have k := kk _ h
  obtain ⟨ci, C, T, ty, fs, b1, b2, b3, b4, b5, b6, b7, b8⟩ := bn
  obtain ⟨p, l, e, R, s, m, args, below, meth, c, Q, c0, s0⟩ := Γ
  obtain ⟨hx, hb, hml, hown, hts, hK, hR, hlk, hA, hRm, hAO, hz⟩ := G
  obtain ⟨rfl, rfl⟩ := E
  intro H locs ls hl hP hDD hS
  refine W_sized fun hle => ?_
  have hD : H.size = K.1 + kn σ := wb_size hA hP hS.1 hz hc1 (by have := (tb_oi _ _ hc3).2.2; omega) hle
  obtain ⟨r1, r2, r3, r4⟩ := wb_room hRm hc1 hc2 hc3
  have hKn := hK.1 ci _ b1
  have hadr : aa K F i = H.size := (hA _ _ hc3).trans hD.symm
  have hkn := kn_zr (σ := σ) (F := F) (i := i) (by have := (tb_oi _ _ hc3).2.2; omega)
  refine W.newcK hx hb hown (hts _ b4) (hts _ b5) (hts _ b6) rfl d r1 r2 hKn.2.1 rfl fun H1 kC hkC e1 z1 o1 => ?_
  have hk : ∀ (k : Nat) (x : Nat × va_E), (FB K σ)[k]? = some x → H1[x.1]? = H[x.1]? := fun k x hx => o1 x.1 ((hP k x hx).lt)
  have hP1 : va_P K.2.1 vwCl (FB K (bb_zr σ F i)) H1 := by
    rw [FB_push hc3]
    refine (hP.kept hk).app (fun k x hx => ?_)
    have hz' : k < 1 := (List.getElem?_eq_some_iff.mp hx).1
    rw [show k = 0 by omega] at hx
    cases hx
    rw [b8, hadr]
    exact ⟨_, b1, (u_born ty hts b2 hKn hkC e1 b3).to b7⟩
  have hS1 : va_S (AB K) s.heap H1 locs := ⟨Nat.le_trans hS.1 (by omega), fun x h1 h2 => (o1 x (Nat.lt_of_lt_of_le h1 hS.1)).trans (hS.2.1 x h1 h2), hS.2.2⟩
  have := k H1 locs ls hl hP1 (FB_D hA) hS1
  rw [hkn] at this
  rw [r3, r4, ← hadr]
  exact this
theorem wp_newa {F i N t : Nat} {aty : ArrayType} {x : Int32} {k : Mem → RR} (G : GB K Γ cc own nL fr lo) (E : EBd Γ kB kE) (bi : Bi F N t aty) (hx0 : ¬ x < 0 ∧ x.toNatClampNeg = N ∧ N * componentBytes (newarray.typeOf aty) ≤ 536870912) (d : decode cc pc = .ok (.newarray aty, 2)) (h : bb_nw kB kE F i σ k = some fin) (kk : ∀ s, k s = some fin → WB K Γ s (pc + 2) L (.ref (aa K F i) :: S)) : WB K Γ σ pc L (.int x :: S) := by
  unfold bb_nw at h
  split at h
  case isFalse => cases h
  rename_i hc
  obtain ⟨hc1, hc2, hc3⟩ := hc
  have k := kk _ h
  obtain ⟨b1, b2, b3, b4, b5⟩ := bi
  obtain ⟨a0, b5, b6⟩ := b5 K i
  obtain ⟨p, l, e, R, s, m, args, below, meth, c, Q, c0, s0⟩ := Γ
  obtain ⟨hx, hb, hml, hown, hts, hK, hR, hlk, hA, hRm, hAO, hz⟩ := G
  obtain ⟨rfl, rfl⟩ := E
  intro H locs ls hl hP hDD hS
  refine W_sized fun hle => ?_
  have hD : H.size = K.1 + kn σ := wb_size hA hP hS.1 hz hc1 (by have := (tb_oi _ _ hc3).2.2; omega) hle
  obtain ⟨r1, r2, r3, r4⟩ := wb_room hRm hc1 hc2 hc3
  have hadr : aa K F i = H.size := (hA _ _ hc3).trans hD.symm
  have hkn := kn_zr (σ := σ) (F := F) (i := i) (by have := (tb_oi _ _ hc3).2.2; omega)
  refine va_newaK hx hb (hts _ b2) rfl d rfl hx0.1 hx0.2.1 hx0.2.2 r1 (by rw [← b1]; exact r2) rfl fun H1 cA e1 z1 o1 hAr hNm => ?_
  have hcA : cA = K.2.2.1 t := Option.some.inj (hNm.symm.trans (b4 s _ (hK.2 t _ (b3 _)).2))
  subst hcA
  have hk : ∀ (k : Nat) (x : Nat × va_E), (FB K σ)[k]? = some x → H1[x.1]? = H[x.1]? := fun k x hx => o1 x.1 ((hP k x hx).lt)
  have hP1 : va_P K.2.1 vwCl (FB K (bb_zr σ F i)) H1 := by
    rw [FB_push hc3]
    refine (hP.kept hk).app (fun k x hx => ?_)
    have hz' : k < 1 := (List.getElem?_eq_some_iff.mp hx).1
    rw [show k = 0 by omega] at hx
    cases hx
    rw [b5, hadr]
    show H1[H.size]? = some (vp_cell _ _)
    rw [b6]
    exact e1
  have hS1 : va_S (AB K) s.heap H1 locs := ⟨Nat.le_trans hS.1 (by omega), fun x h1 h2 => (o1 x (Nat.lt_of_lt_of_le h1 hS.1)).trans (hS.2.1 x h1 h2), hS.2.2⟩
  have := k H1 locs ls hl hP1 (FB_D hA) hS1
  rw [hkn] at this
  rw [r3, ← b1, r4, ← hadr]
  exact this
theorem wp_callI {As rest : List Value} {F i idx na kE1 : Nat} {y : MethodName} {b1 : ByteArray} {mL fr1 lo1 : Nat} {X : RR} {k : Mem → RR} (G : GB K Γ cc own nL fr lo) (E : EBd Γ kB kE) (cs : CsI own idx y b1 mL na) (hC : ∀ q1, X = some (.inr none, q1) → kn q1 = kE1 → CtB (Γ.2.1) K y b1 mL fr1 lo1 (.ref (aa K F i) :: As) σ q1)
    (hS0 : S = As.reverse ++ .ref (aa K F i) :: rest) (hn : As.length = na) (hw : (rest.map fun v => v.category).sum ≤ 8) (d : decode cc pc = .ok (.invokespecial idx, 3)) (hR : fr1 + 1 ≤ fr ∧ 8 + (mL + 11) + lo1 ≤ lo) (h247 : kE ≤ 247) (h : bb_cV kB kE kE1 X σ k = some fin) (kk : ∀ s, k s = some fin → WB K Γ s (pc + 3) L rest) : WB K Γ σ pc L S := by
  subst hS0
  obtain ⟨q1, hX, ⟨h1, h2, h3, h4⟩, h⟩ := bb_cV_some h
  have k := kk _ h
  have hC := hC q1 hX h4
  obtain ⟨p, l, e, R, s, m, args, below, meth, c, Q, c0, s0⟩ := Γ
  obtain ⟨hx, hb, hml, hown, hts, hK, hRR, hlk, hA, hRm, hAO, hz⟩ := G
  obtain ⟨rfl, rfl⟩ := E
  obtain ⟨w1, w2, w3, w4, w5, w6⟩ := cs
  intro H locs ls hl hP hD hS
  refine W_sized fun hle => ?_
  have hsz : H.size = K.1 + kn σ := wb_size hA hP hS.1 hz h1 (by omega) hle
  obtain ⟨g1, g2, g3⟩ := wb_sums hRm h1 h2 h3
  have hM := hC hA ⟨by omega, by omega⟩
  have hcw := cwI (R := R) (rm := { frames := fr1, cells := kn q1 - kn σ, slots := SL (kn q1) - SL (kn σ), locals := lo1 }) (ws := Cond.code y b1 mL none :: wAll) na hts (gd_of fun w hw' => (List.mem_cons.mp hw').elim (fun e9 => e9 ▸ w4) (fun z => z)) rfl rfl rfl (hts _ w3) (hts _ w1) (hts _ w2) w5 w6 ⟨Nat.le_trans hR.1 hRR.1, Nat.le_trans hR.2 hRR.2⟩
  have hrun := va_runI (As := As) (rest := rest) (b := aa K F i) (g := F0 m pc ls (As.reverse ++ .ref (aa K F i) :: rest)) ⟨hx, hb, rfl, hown, hts⟩ hM hcw ⟨PcB_blind, fun U hU hW => ⟨rfl, by rw [hU]; exact hP, by rw [hU]; exact hsz, va_K.moved hW.alike hK, hAO.moved hW.alike⟩⟩ rfl hn hl.1 rfl (lv_room hw) d (cells := kn σ - c0) (slots := SL (kn σ) - SL c0) (locs := locs) (below := below) (meth := meth) (e := e) (by rw [h4]; exact g1)
  refine wb_ran hrun hS hA (fun H1 locs1 hP1 hS1 => ?_)
  have := k H1 locs1 ls hl hP1 (FB_D hA) hS1
  rw [h4] at this ⊢
  rw [g2, g3]
  exact this
end VPre

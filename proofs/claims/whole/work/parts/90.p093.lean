section
variable {s : Mem} {A : Ab} {c : Nat} {x1 x2 x3 x4 : Int32}
theorem call_store (hX : RX s A) (hW : WF A c) : Agr (f_X_store x1 x2) (f_M_store x1 x2) 2 1 1 s A c := by
  have cap := hW.ws.cap
  cases hg : (inR 0 12 x1 && inR 0 4 x2) with
  | false =>
    refine Agr.no hX hW (e := 1) (by decide) (by decide) ?_ fun t ht => ⟨nI 0, mm_wI t 30 0 31 (nI 1), ?_, wI_y, ht.thr, FrN.wI (by decide)⟩
    · unfold f_X_store
      simp only [mm_jn]
      rw [X_isStore, cI_ok]
      cases h1 : inR 0 12 x1 with
      | false => rw [if_pos (by decide), show (0 : Int32) = bI false from rfl, X_demand]; rfl
      | true =>
        rw [h1] at hg
        have h2 : inR 0 4 x2 = false := hg
        rw [if_neg (by decide), show (4 : Int32) = nI 4 from rfl, X_isWithin, cI_ok, h2, if_pos (by decide), show (0 : Int32) = bI false from rfl, X_demand]; rfl
    · unfold f_M_store
      simp only [mm_jn]
      rw [show (11 : Int32) = nI 11 from rfl, M_upTo (by decide), cI_ok]
      cases h1 : inR 0 12 x1 with
      | false => rw [if_pos (by decide), pf_ok, gf_ok, wI_y, if_neg (by decide)]; rfl
      | true =>
        rw [h1] at hg
        have h2 : inR 0 4 x2 = false := hg
        rw [if_neg (by decide), show (3 : Int32) = nI 3 from rfl, M_upTo (by decide), cI_ok, h2, if_pos (by decide), pf_ok, gf_ok, wI_y, if_neg (by decide)]; rfl
  | true =>
    simp only [Bool.and_eq_true] at hg
    obtain ⟨h1, h2⟩ := hg
    obtain ⟨i, _, hi, rfl⟩ := inR_get (by decide) (by decide) h1
    obtain ⟨j, _, hj, rfl⟩ := inR_get (by decide) (by decide) h2
    refine Agr.yes (by decide) hW.mono (s' := s) (v := if j = 0 then nI (capa i - cN (A.S.cp i) 64) else if j = 1 then nI (A.S.held i) else if j = 2 then nI (A.S.ea i) else nI (A.S.rf i)) ?_ hX FrC.rf fun t ht => ⟨mm_wI t 30 0 31 (nI 0), ?_, wI_y, ht.thr, FrN.wI (by decide)⟩
    · unfold f_X_store
      simp only [mm_jn]
      rw [X_isStore, cI_ok, h1, if_neg (by decide), show (4 : Int32) = nI 4 from rfl, X_isWithin, cI_ok, h2, if_neg (by decide), show (1 : Int32) = bI true from rfl, X_demand, if_pos rfl, tV_ok, al_ok (by omega) (by omega)]
      match j, hj with
      | 0, _ => rw [if_pos rfl, S_room hX.sto hi (cap i hi), cI_ok]; rfl
      | 1, _ => rw [if_neg (by decide), if_pos rfl, gf_ok, hX.sto.hel i hi]; rfl
      | 2, _ => rw [if_neg (by decide), if_neg (by decide), if_pos rfl, gf_ok, hX.sto.exl i hi]; rfl
      | 3, _ => rw [if_neg (by decide), if_neg (by decide), if_neg (by decide), gf_ok, hX.sto.ref i hi]; rfl
    · have ht1 := ht.thr (v := nI 0)
      unfold f_M_store
      simp only [mm_jn]
      rw [show (11 : Int32) = nI 11 from rfl, M_upTo (by decide), cI_ok, h1, if_neg (by decide), show (3 : Int32) = nI 3 from rfl, M_upTo (by decide), cI_ok, h2, if_neg (by decide), pf_ok, gf_ok, wI_y, if_pos rfl]
      match j, hj with
      | 0, _ => rw [if_neg (by decide)]; rw [show (0 : Int32) = nI 0 from rfl, M_room ht1.sto hi (cap i hi), cI_ok]; rfl
      | 1, _ => rw [if_pos (by decide), if_neg (by decide), show (0 : Int32) = nI 0 from rfl, ld_ok (by omega) (by omega), ht1.sto.hel i hi]; rfl
      | 2, _ => rw [if_pos (by decide), if_pos (by decide), if_neg (by decide), show (0 : Int32) = nI 0 from rfl, ld_ok (by omega) (by omega), ht1.sto.exl i hi]; rfl
      | 3, _ => rw [if_pos (by decide), if_pos (by decide), if_pos (by decide), show (0 : Int32) = nI 0 from rfl, ld_ok (by omega) (by omega), ht1.sto.ref i hi]; rfl
theorem call_box (hX : RX s A) (hW : WF A c) : Agr (f_X_box x1 x2 x3) (f_M_box x1 x2 x3) 2 1 1 s A c := by
  cases hg : ((inR 0 8 x1 && inR 0 3 x2) && inR 0 3 x3) with
  | false =>
    refine Agr.no hX hW (e := 1) (by decide) (by decide) ?_ fun t ht => ⟨nI 0, mm_wI t 30 0 31 (nI 1), ?_, wI_y, ht.thr, FrN.wI (by decide)⟩
    · unfold f_X_box
      simp only [mm_jn]
      rw [X_isBox, cI_ok]
      cases h1 : (inR 0 8 x1 && inR 0 3 x2) with
      | false => rw [if_pos (by decide), show (0 : Int32) = bI false from rfl, X_demand]; rfl
      | true =>
        rw [h1] at hg
        have h2 : inR 0 3 x3 = false := hg
        rw [if_neg (by decide), show (3 : Int32) = nI 3 from rfl, X_isWithin, cI_ok, h2, if_pos (by decide), show (0 : Int32) = bI false from rfl, X_demand]; rfl
    · unfold f_M_box
      simp only [mm_jn]
      rw [M_isBox, cI_ok]
      cases h1 : (inR 0 8 x1 && inR 0 3 x2) with
      | false => rw [if_pos (by decide), pf_ok, gf_ok, wI_y, if_neg (by decide)]; rfl
      | true =>
        rw [h1] at hg
        have h2 : inR 0 3 x3 = false := hg
        rw [if_neg (by decide), show (2 : Int32) = nI 2 from rfl, M_upTo (by decide), cI_ok, h2, if_pos (by decide), pf_ok, gf_ok, wI_y, if_neg (by decide)]; rfl
  | true =>
    have hg0 := hg
    simp only [Bool.and_eq_true] at hg
    obtain ⟨⟨h1, h2⟩, h3⟩ := hg
    have h12 : (inR 0 8 x1 && inR 0 3 x2) = true := by rw [h1, h2]; rfl
    obtain ⟨g, _, hg, rfl⟩ := inR_get (by decide) (by decide) h1
    obtain ⟨b, _, hb, rfl⟩ := inR_get (by decide) (by decide) h2
    obtain ⟨j, _, hj, rfl⟩ := inR_get (by decide) (by decide) h3
    refine Agr.yes (by decide) hW.mono (s' := s) (v := if j = 0 then nI (A.B.lies (3 * g + b)).length else if j = 1 then nI (byS A.L.sz (A.B.lies (3 * g + b))) else qv (A.B.quo (3 * g + b))) ?_ hX FrC.rf fun t ht => ⟨mm_wI t 30 0 31 (nI 0), ?_, wI_y, ht.thr, FrN.wI (by decide)⟩
    · unfold f_X_box
      simp only [mm_jn]
      rw [X_isBox, h12, cI_ok, if_neg (by decide), show (3 : Int32) = nI 3 from rfl, X_isWithin, cI_ok, h3, if_neg (by decide), show (1 : Int32) = bI true from rfl, X_demand, if_pos rfl, tV_ok, al_ok (by omega) (by omega), al_ok (by omega) (by omega)]
      match j, hj with
      | 0, _ => rw [if_neg (by decide), gf_ok, hX.box.cnt _ (by omega)]; rfl
      | 1, _ => rw [if_pos (by decide), if_neg (by decide), gf_ok, hX.box.byt _ (by omega)]; rfl
      | 2, _ => rw [if_pos (by decide), if_pos (by decide), gf_ok, hX.box.quo _ (by omega)]; rfl
    · have ht1 := ht.thr (v := nI 0)
      unfold f_M_box
      simp only [mm_jn]
      have e3 : (3 : Int32) * nI g + nI b = nI (3 * g + b) := by simp only [qI_lit, qI_mul, qI_add]
      rw [M_isBox, h12, cI_ok, if_neg (by decide), show (2 : Int32) = nI 2 from rfl, M_upTo (by decide), cI_ok, h3, if_neg (by decide), show (0 : Int32) = nI 0 from rfl, pf_ok, gf_ok, wI_y, if_pos rfl, e3]
      match j, hj with
      | 0, _ => rw [if_neg (by decide), ld_ok (by omega) (by omega), ht1.box.cnt _ (by omega)]; rfl
      | 1, _ => rw [if_pos (by decide), if_neg (by decide), M_bytesIn ht1.ltr ht1.box hW.wk.wl hW.wk.wb (by omega), cI_ok]; rfl
      | 2, _ => rw [if_pos (by decide), if_pos (by decide), ld_ok (by omega) (by omega), ht1.box.quo _ (by omega)]; rfl
theorem inR_not {n : Nat} (hn : n < 2147483648) (h : inR 0 n x1 = false) : x1 < 0 ∨ (¬ x1 < 0 ∧ nI n ≤ x1) := by
  by_cases h1 : x1 < 0
  · exact .inl h1
  · refine .inr ⟨h1, ?_⟩
    by_cases h2 : nI n ≤ x1
    · exact h2
    · exact absurd (decide_eq_true (⟨nlt_le.mp h1, nle_lt.mp h2⟩ : nI 0 ≤ x1 ∧ x1 < nI n)) (by unfold inR at h; rw [h]; decide)
theorem call_read (hX : RX s A) (hW : WF A c) : Agr (f_X_read x1 x2 x3 x4) (f_M_read x1 x2 x3 x4) 3 1 3 s A c := by
  have wl := hW.wk.wl
  have wb := hW.wk.wb
  have h16 := wl.n16
  cases h12 : (inR 0 8 x1 && inR 0 3 x2) with
  | false =>
    refine Agr.no hX hW (e := 1) (by decide) (by decide) ?_ fun t ht => ⟨nI 0, mm_wI t 30 0 31 (nI 1), ?_, wI_y, ht.thr, FrN.wI (by decide)⟩
    · unfold f_X_read
      rw [X_isBox, h12, cI_ok, X_demand]; rfl
    · unfold f_M_read
      simp only [mm_jn]
      rw [M_isBox, h12, cI_ok, if_neg (by decide), pf_ok, gf_ok, wI_y, if_neg (by decide)]; rfl
  | true =>
    have h12' := h12
    simp only [Bool.and_eq_true] at h12
    obtain ⟨h1, h2⟩ := h12
    obtain ⟨g, _, hg, rfl⟩ := inR_get (by decide) (by decide) h1
    obtain ⟨b, _, hb, rfl⟩ := inR_get (by decide) (by decide) h2
    have hlen : (A.B.lies (3 * g + b)).length ≤ 16 := Nat.le_trans (wb.len _) (cN_le _ _)
    have e3 : (3 : Int32) * nI g + nI b = nI (3 * g + b) := by simp only [qI_lit, qI_mul, qI_add]
    have hXa : ∀ K : Mem → RR, (f_X_read (nI g) (nI b) x3 x4 s = (mm_tV (f_X_demandIndex x3 (nI (A.B.lies (3 * g + b)).length) s) fun s27 => mm_ld s27 17 (3 * g + b) 16 x3 fun v40 => mm_al 16 v40 fun j41 => mm_gf s27 19 j41 6 fun v48 => mm_tV (f_X_demandIndex x4 v48 s27) fun s51 => mm_ldj s51 20 j41 4 (x4 / 8) fun v64 => mm_cI (f_X_byteAt v64 (mm_irem x4 8) s51) fun v70 s70 => mm_ri v70 s70)) := by
      intro _
      unfold f_X_read
      rw [X_isBox, h12', cI_ok, X_demand, if_pos rfl, tV_ok, al_ok (by omega) (by omega), al_ok (by omega) (by omega), gf_ok, hX.box.cnt _ (by omega)]
    cases h3 : inR 0 (A.B.lies (3 * g + b)).length x3 with
    | false =>
      refine Agr.no hX hW (e := 2) (by decide) (by decide) ?_ fun t ht => ⟨nI 0, mm_wI t 30 0 31 (nI 2), ?_, wI_y, ht.thr, FrN.wI (by decide)⟩
      · rw [hXa mm_rv, X_demandIndex, h3]; rfl
      · unfold f_M_read
        simp only [mm_jn]
        rw [M_isBox, h12', cI_ok, if_pos (by decide), e3]
        rcases inR_not (by omega) h3 with h9 | ⟨h9, h8⟩
        · rw [if_pos h9, pf_ok, gf_ok, wI_y, if_neg (by decide)]; rfl
        · rw [if_neg h9, ld_ok (by omega) (by omega), ht.box.cnt _ (by omega), if_pos h8, pf_ok, gf_ok, wI_y, if_neg (by decide)]; rfl
    | true =>
      have h3' := h3
      obtain ⟨j, _, hj, rfl⟩ := inR_get (by decide) (by omega) h3
      have hx : (A.B.lies (3 * g + b))[j]? = some (A.B.lies (3 * g + b))[j] := List.getElem?_eq_getElem hj
      obtain ⟨hln, hdl⟩ := wb.mem _ _ (List.getElem_mem hj)
      have hs32 := wl.s32 (A.B.lies (3 * g + b))[j]
      generalize (A.B.lies (3 * g + b))[j] = l at hx hln hdl hs32
      have e16 : (16 : Int32) * nI (3 * g + b) + nI j = nI (16 * (3 * g + b) + j) := by simp only [qI_lit, qI_mul, qI_add]
      have n3 : ¬ nI j < 0 := by rw [show (0 : Int32) = nI 0 from rfl, qI_lt (by omega) (by omega)]; omega
      cases h4 : inR 0 (A.L.sz l) x4 with
      | false =>
        refine Agr.no hX hW (e := 2) (by decide) (by decide) ?_ fun t ht => ⟨nI 0, mm_wI t 30 0 31 (nI 2), ?_, wI_y, ht.thr, FrN.wI (by decide)⟩
        · rw [hXa mm_rv, X_demandIndex, h3', if_pos rfl, tV_ok, ld_ok (by omega) (by omega), hX.box.lie _ _ _ (by omega) hx, al_ok (by omega) (by omega), gf_ok, hX.ltr.sz l hln, X_demandIndex, h4]; rfl
        · unfold f_M_read
          simp only [mm_jn]
          rw [M_isBox, h12', cI_ok, if_pos (by decide), e3, if_neg n3, ld_ok (by omega) (by omega), ht.box.cnt _ (by omega), if_neg (by rw [qI_le (by omega) (by omega)]; omega)]
          rcases inR_not (by omega) h4 with h9 | ⟨h9, h8⟩
          · rw [if_pos h9, pf_ok, gf_ok, wI_y, if_neg (by decide)]; rfl
          · rw [if_neg h9, e16, ld_ok (by omega) (by omega), ht.box.lie _ _ _ (by omega) hx, ld_ok (by omega) (by omega), ht.ltr.sz l hln, if_neg (nlt_le.mpr h8), pf_ok, gf_ok, wI_y, if_neg (by decide)]; rfl
      | true =>
        have h4' := h4
        obtain ⟨q, _, hq, rfl⟩ := inR_get (by decide) (by omega) h4
        refine Agr.yes (by decide) hW.mono (s' := s) (v := nI (A.B.dlv l q)) ?_ hX FrC.rf fun t ht => ⟨mm_wI t 30 0 31 (nI 0), ?_, wI_y, ht.thr, FrN.wI (by decide)⟩
        · rw [hXa mm_rv, X_demandIndex, h3', if_pos rfl, tV_ok, ld_ok (by omega) (by omega), hX.box.lie _ _ _ (by omega) hx, al_ok (by omega) (by omega), gf_ok, hX.ltr.sz l hln, X_demandIndex, h4', if_pos rfl, tV_ok, show (8 : Int32) = nI 8 from rfl, qI_div (by omega) (by omega), qI_rem (by omega) (by omega), ldj_ok (by omega) (by omega), X_byteAt, cI_ok, hX.box.dlv l q (by omega) hq hdl]
        · have ht1 := ht.thr (v := nI 0)
          have n4 : ¬ nI q < 0 := by rw [show (0 : Int32) = nI 0 from rfl, qI_lt (by omega) (by omega)]; omega
          have e32 : (32 : Int32) * nI l + nI q = nI (32 * l + q) := by simp only [qI_lit, qI_mul, qI_add]
          unfold f_M_read
          simp only [mm_jn]
          rw [M_isBox, h12', cI_ok, if_pos (by decide), e3, if_neg n3, ld_ok (by omega) (by omega), ht.box.cnt _ (by omega), if_neg (by rw [qI_le (by omega) (by omega)]; omega), if_neg n4, e16, ld_ok (by omega) (by omega), ht.box.lie _ _ _ (by omega) hx, ld_ok (by omega) (by omega), ht.ltr.sz l hln, if_pos (by rw [qI_lt (by omega) (by omega)]; exact hq), show (0 : Int32) = nI 0 from rfl, pf_ok, gf_ok, wI_y, if_pos rfl, ld_ok (by omega) (by omega), ht1.box.lie _ _ _ (by omega) hx, e32, ld_ok (by omega) (by omega), ht1.box.dlv l q (by omega) hq hdl]
end

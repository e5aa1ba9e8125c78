-- bytes of a long
theorem nI_and255 (x : Int32) : ∃ m, m < 256 ∧ x &&& 255 = nI m := by
  refine ⟨(x.toBitVec &&& 255#32).toNat, ?_, ?_⟩
  · rw [BitVec.toNat_and]
    exact Nat.lt_of_le_of_lt Nat.and_le_right (by decide)
  · rw [← Int32.toBitVec_inj]
    show x.toBitVec &&& 255#32 = BitVec.ofNat 32 _
    rw [BitVec.ofNat_toNat, BitVec.setWidth_eq]
theorem key0 (x : Int64) {j : Nat} (hj : j < 8) : (bytI x j).toBitVec = ((x.toBitVec >>> (8 * j)).setWidth 32) &&& 255#32 := by
  have hy : ((nI (8 * j)).toInt64.toUInt64 &&& Int64.toUInt64 63) = UInt64.ofNat (8 * j) := by
    match j, hj with
    | 0, _ => decide
    | 1, _ => decide
    | 2, _ => decide
    | 3, _ => decide
    | 4, _ => decide
    | 5, _ => decide
    | 6, _ => decide
    | 7, _ => decide
  unfold bytI mm_lushr
  rw [hy, Int32.toBitVec_and, Int64.toBitVec_toInt32]
  show BitVec.signExtend 32 (x.toUInt64 >>> UInt64.ofNat (8 * j)).toBitVec &&& 255#32 = _
  rw [UInt64.toBitVec_shiftRight]
  show BitVec.signExtend 32 (x.toBitVec >>> ((BitVec.ofNat 64 (8 * j)) % 64)) &&& 255#32 = _
  have e1 : BitVec.signExtend 32 (x.toBitVec >>> (BitVec.ofNat 64 (8 * j) % 64)) = BitVec.setWidth 32 (x.toBitVec >>> (8 * j)) := by
    rw [BitVec.signExtend_eq_setWidth_of_le _ (by decide)]
    congr 1
    match j, hj with
    | 0, _ => rfl
    | 1, _ => rfl
    | 2, _ => rfl
    | 3, _ => rfl
    | 4, _ => rfl
    | 5, _ => rfl
    | 6, _ => rfl
    | 7, _ => rfl
  rw [e1]
theorem key1 (x : Int32) {j : Nat} (hj : j < 8) : (mm_lshl (x.toInt64 &&& 255) (nI (8 * j))).toBitVec = (x.toBitVec.signExtend 64 &&& 255#64) <<< (8 * j) := by
  have hy : ((nI (8 * j)).toInt64 &&& 63) = Int64.ofNat (8 * j) := by
    match j, hj with
    | 0, _ => decide
    | 1, _ => decide
    | 2, _ => decide
    | 3, _ => decide
    | 4, _ => decide
    | 5, _ => decide
    | 6, _ => decide
    | 7, _ => decide
  unfold mm_lshl
  rw [hy, Int64.toBitVec_shiftLeft]
  have e1 : (Int64.ofNat (8 * j)).toBitVec.smod 64 = BitVec.ofNat 64 (8 * j) := by
    match j, hj with
    | 0, _ => decide
    | 1, _ => decide
    | 2, _ => decide
    | 3, _ => decide
    | 4, _ => decide
    | 5, _ => decide
    | 6, _ => decide
    | 7, _ => decide
  rw [e1, Int64.toBitVec_and, Int32.toBitVec_toInt64]
  show (BitVec.signExtend 64 x.toBitVec &&& 255#64) <<< BitVec.ofNat 64 (8 * j) = _
  match j, hj with
  | 0, _ => rfl
  | 1, _ => rfl
  | 2, _ => rfl
  | 3, _ => rfl
  | 4, _ => rfl
  | 5, _ => rfl
  | 6, _ => rfl
  | 7, _ => rfl
theorem bytI_bit (x : Int64) {j : Nat} (hj : j < 8) (m : Nat) : (bytI x j).toBitVec.getLsbD m = (decide (m < 8) && x.toBitVec.getLsbD (8 * j + m)) := by
  have key := key0 x hj
  have h255 : (255#32).getLsbD m = decide (m < 8) := by
    by_cases h : m < 32
    · revert h m; decide
    · rw [BitVec.getLsbD_of_ge _ _ (by omega)]; symm; exact decide_eq_false (by omega)
  rw [key, BitVec.getLsbD_and, h255, BitVec.getLsbD_setWidth, BitVec.getLsbD_ushiftRight]
  by_cases h : m < 8
  · simp [h, show m < 32 by omega]
  · simp [h]
theorem shft_bit (x : Int32) {j : Nat} (hj : j < 8) (p : Nat) : (mm_lshl (x.toInt64 &&& 255) (nI (8 * j))).toBitVec.getLsbD p = (decide (8 * j ≤ p ∧ p < 8 * j + 8) && x.toBitVec.getLsbD (p - 8 * j)) := by
  have key := key1 x hj
  have h255 : ∀ m, (255#64).getLsbD m = decide (m < 8) := by
    intro m
    by_cases h : m < 64
    · revert h m; decide
    · rw [BitVec.getLsbD_of_ge _ _ (by omega)]; symm; exact decide_eq_false (by omega)
  rw [key, BitVec.getLsbD_shiftLeft, BitVec.getLsbD_and, h255]
  by_cases h : 8 * j ≤ p ∧ p < 8 * j + 8
  · rw [BitVec.getLsbD_signExtend]
    simp [h, show p < 64 by omega, show p - 8 * j < 8 by omega, show p - 8 * j < 64 by omega, show p - 8 * j < 32 by omega]
  · rw [decide_eq_false h]
    by_cases h2 : p < 8 * j
    · simp [h2]
    · simp [show ¬ p - 8 * j < 8 by omega]
theorem byt_xor (x : Int64) (y : Int32) {j j' : Nat} (hj : j < 8) (hj' : j' < 8) : bytI (x ^^^ mm_lshl (y.toInt64 &&& 255) (nI (8 * j))) j' = if j' = j then bytI x j' ^^^ (y &&& 255) else bytI x j' := by
  have h255 : ∀ m, (255#32).getLsbD m = decide (m < 8) := by
    intro m
    by_cases h : m < 32
    · revert h m; decide
    · rw [BitVec.getLsbD_of_ge _ _ (by omega)]; symm; exact decide_eq_false (by omega)
  rw [← Int32.toBitVec_inj]
  apply BitVec.eq_of_getLsbD_eq
  intro m hm
  rw [bytI_bit _ hj', Int64.toBitVec_xor, BitVec.getLsbD_xor, shft_bit _ hj]
  by_cases e : j' = j
  · subst e
    rw [if_pos rfl, Int32.toBitVec_xor, BitVec.getLsbD_xor, bytI_bit _ hj']
    show _ = (_ ^^ (y.toBitVec &&& 255#32).getLsbD m)
    rw [BitVec.getLsbD_and, h255]
    by_cases h : m < 8
    · simp [h]
    · simp [h]
  · rw [if_neg e, bytI_bit _ hj']
    by_cases h : m < 8
    · simp [h, show ¬ (8 * j ≤ 8 * j' + m ∧ 8 * j' + m < 8 * j + 8) by omega]
    · simp [h]
theorem nI_xor {a b : Nat} : nI a ^^^ nI b = nI (a ^^^ b) := by
  rw [← Int32.toBitVec_inj]
  show BitVec.ofNat 32 a ^^^ BitVec.ofNat 32 b = BitVec.ofNat 32 (a ^^^ b)
  rw [BitVec.ofNat_xor]
theorem X_shifted {s : Mem} {x : Int32} {j : Nat} : f_X_shifted x (nI j) s = mm_rj (mm_lshl (x.toInt64 &&& 255) (nI (8 * j))) s := by
  unfold f_X_shifted
  rw [show (8 : Int32) * nI j = nI (8 * j) by simp only [qI_lit, qI_mul]]
theorem cJ_ok {v : Int64} {s : Mem} {k : Int64 → Mem → RR} : mm_cJ (mm_rj v s) k = k v s := rfl
theorem getD_ge {l : List Nat} {j : Nat} (h : l.length ≤ j) : l.getD j 0 = 0 := by simp [List.getD, List.getElem?_eq_none h]
-- key
section
variable {s : Mem} {A : Ab} {c : Nat} {x1 : Int32}
theorem call_key (hX : RX s A) (hR : RM s A) (hW : WF A c) : ∃ v A' s1 s2, WF A' (c + 1) ∧ f_X_key x1 s = mm_ri v s1 ∧ f_M_key x1 s1 = mm_ri v s2 ∧ RX s2 A' ∧ RM s2 A' := by
  have h32 := hW.t32
  by_cases e : A.txt.length = 32
  · refine ⟨nI 0, A, s, mm_wI s 30 0 31 (nI 0), hW.mono, ?_, ?_, hX.fr (FrN.wI (by decide)), hR.thr⟩
    · unfold f_X_key
      rw [gf_ok, hX.tln, e, if_neg (fun h => h rfl)]; rfl
    · unfold f_M_key
      rw [pf_ok, gf_ok, wI_k (by decide), hR.tln, e, if_neg (fun h => h rfl)]; rfl
  · obtain ⟨m, hm, hm'⟩ := nI_and255 x1
    have hl : A.txt.length < 32 := by omega
    have hne : ¬ nI A.txt.length = 32 := by rw [show (32 : Int32) = nI 32 from rfl, qI_inj (by omega) (by omega)]; exact e
    refine ⟨nI 1, mkAb A.now A.T A.pubs A.S A.L A.B (A.txt ++ [m]), mm_wI (mm_wJ s 21 0 (A.txt.length / 8) (s.2 21 0 (A.txt.length / 8) ^^^ mm_lshl (x1.toInt64 &&& 255) (nI (8 * (A.txt.length % 8))))) 0 0 9 (nI (A.txt.length + 1)), ?_⟩
    generalize hs1 : mm_wI (mm_wJ s 21 0 (A.txt.length / 8) (s.2 21 0 (A.txt.length / 8) ^^^ mm_lshl (x1.toInt64 &&& 255) (nI (8 * (A.txt.length % 8))))) 0 0 9 (nI (A.txt.length + 1)) = s1
    have hx1 : f_X_key x1 s = mm_ri (nI 1) s1 := by
      unfold f_X_key
      rw [gf_ok, hX.tln, if_pos hne, gf_ok, hX.tln, show (8 : Int32) = nI 8 from rfl, qI_div (by omega) (by omega), ldj_ok (by omega) (by omega), gf_ok, hX.tln, qI_rem (by omega) (by omega), X_shifted, cJ_ok, stj_ok (by omega) (by omega), gf_ok, wJ_1, hX.tln, pf_ok, show nI A.txt.length + 1 = nI (A.txt.length + 1) by simp only [qI_lit, qI_add], hs1]; rfl
    have hX1 : RX s1 (mkAb A.now A.T A.pubs A.S A.L A.B (A.txt ++ [m])) := by
      rw [← hs1]
      refine ⟨hX.clk, hX.pub, ?_, fun t ht => (hX.tab t ht).elim fun L hL => ⟨L, ⟨hL.1.cnt, hL.1.row⟩, hL.2⟩, ⟨hX.sto.cap, hX.sto.cop, hX.sto.hel, hX.sto.exl, hX.sto.ref, hX.sto.hop, hX.sto.new, hX.sto.kno, hX.sto.byt, hX.sto.hlt, hX.sto.nlt, hX.sto.vcp⟩, ⟨hX.ltr.n, hX.ltr.org, hX.ltr.gl, hX.ltr.ad, hX.ltr.srt, hX.ltr.ps, hX.ltr.pr, hX.ltr.sz, hX.ltr.sm, hX.ltr.ov, hX.ltr.ex⟩, ⟨hX.box.grp, hX.box.cnt, hX.box.byt, hX.box.quo, hX.box.lie, hX.box.dlv⟩, fun j hj => ?_⟩
      · rw [wI_y]; show _ = nI (A.txt ++ [m]).length; rw [List.length_append]; rfl
      · rw [wI_2, wJ_eq]
        have h0 := hX.txb j hj
        show _ = nI ((A.txt ++ [m]).getD j 0)
        by_cases e1 : j / 8 = A.txt.length / 8
        · rw [e1, u2_at, byt_xor _ _ (by omega) (by omega)]
          rw [e1] at h0
          by_cases e2 : j = A.txt.length
          · rw [if_pos (by omega), h0, hm', e2]
            have g1 : A.txt.getD A.txt.length 0 = 0 := by rw [getD_ge (Nat.le_refl _)]
            have g2 : (A.txt ++ [m]).getD A.txt.length 0 = m := by simp [List.getD]
            rw [g1, g2, nI_xor, Nat.zero_xor]
          · rw [if_neg (by omega), h0]
            congr 1
            by_cases e3 : j < A.txt.length
            · simp [List.getD, List.getElem?_append_left e3]
            · rw [getD_ge (by omega), getD_ge (by rw [List.length_append]; show A.txt.length + 1 ≤ j; omega)]
        · rw [u2_ne (fun h => e1 h.2), h0]
          congr 1
          by_cases e3 : j < A.txt.length
          · simp [List.getD, List.getElem?_append_left e3]
          · rw [getD_ge (by omega), getD_ge (by rw [List.length_append]; show A.txt.length + 1 ≤ j; omega)]
    have fc : FrC s s1 := by rw [← hs1]; exact (FrC.wJ (by decide)).tr (FrC.wI (by decide))
    have hR1 := hR.fr fc
    refine ⟨mm_wI (mm_wI (mm_wI s1 30 0 31 (nI 0)) 57 0 A.txt.length (nI m)) 30 0 30 (nI (A.txt.length + 1)), ?_, hx1, ?_, ?_, ?_⟩
    · exact ⟨by have := hW.now; show A.now ≤ _; omega, hW.pub, hW.tab, hW.hel, hW.wk, hW.ws.mono (by omega), hW.ps, by show (A.txt ++ [m]).length ≤ 32; rw [List.length_append]; show A.txt.length + 1 ≤ 32; omega⟩
    · unfold f_M_key
      rw [pf_ok, gf_ok, wI_k (by decide), hR1.tln, if_pos hne, gf_ok, wI_k (by decide), hR1.tln, hm', st_ok (by omega) (by omega), gf_ok, wI_ne (by decide), wI_k (by decide), hR1.tln, pf_ok, show nI A.txt.length + 1 = nI (A.txt.length + 1) by simp only [qI_lit, qI_add]]; rfl
    · exact hX1.fr (((FrN.wI (by decide)).tr (FrN.wI (by decide))).tr (FrN.wI (by decide)))
    · have h1 := hR1.thr (v := nI 0)
      refine ⟨h1.clk, h1.pub, ?_, fun t ht => ⟨(h1.tab t ht).cnt, (h1.tab t ht).row⟩, h1.sto.fr rfl rfl rfl rfl rfl rfl rfl rfl, ⟨h1.ltr.n, h1.ltr.sz, h1.ltr.srt, h1.ltr.org, h1.ltr.gl, h1.ltr.ad, h1.ltr.ps, h1.ltr.sm, h1.ltr.pr, h1.ltr.ex⟩, ⟨h1.box.dlv, h1.box.quo, h1.box.cnt, h1.box.lie, h1.box.grp⟩, fun j b hb => ?_⟩
      · rw [wI_y]; show _ = nI (A.txt ++ [m]).length; rw [List.length_append]; rfl
      · have hb' : (A.txt ++ [m])[j]? = some b := hb
        rw [wI_ne (by decide)]
        by_cases e2 : j = A.txt.length
        · subst e2
          rw [wI_y]
          rw [List.getElem?_append_right (Nat.le_refl _), Nat.sub_self] at hb'
          injection hb' with hb'
          rw [hb']
        · have hj : j < A.txt.length := by
            have := (List.getElem?_eq_some_iff.mp hb').1
            rw [List.length_append] at this
            have : j < A.txt.length + 1 := this
            omega
          rw [List.getElem?_append_left hj] at hb'
          rw [wI_n (by omega)]; exact h1.txb j b hb'
end

-- one call of the law
theorem RX.o70 {s : Mem} {A : Ab} (h : RX s A) {v : Int64} : RX (mm_wJ s 70 0 0 v) A :=
  ⟨h.clk, h.pub, h.tln, fun t ht => (h.tab t ht).elim fun L hL => ⟨L, ⟨hL.1.cnt, hL.1.row⟩, hL.2⟩, ⟨h.sto.cap, h.sto.cop, h.sto.hel, h.sto.exl, h.sto.ref, h.sto.hop, h.sto.new, h.sto.kno, h.sto.byt, h.sto.hlt, h.sto.nlt, h.sto.vcp⟩,
    ⟨h.ltr.n, h.ltr.org, h.ltr.gl, h.ltr.ad, h.ltr.srt, h.ltr.ps, h.ltr.pr, h.ltr.sz, h.ltr.sm, h.ltr.ov, h.ltr.ex⟩, ⟨h.box.grp, h.box.cnt, h.box.byt, h.box.quo, h.box.lie, h.box.dlv⟩, h.txb⟩
theorem RM.o70 {s : Mem} {A : Ab} (h : RM s A) {v : Int64} : RM (mm_wJ s 70 0 0 v) A :=
  ⟨h.clk, h.pub, h.tln, fun t ht => ⟨(h.tab t ht).cnt, (h.tab t ht).row⟩, ⟨h.sto.hel, h.sto.cop, h.sto.hop, h.sto.new, h.sto.byt, h.sto.kno, h.sto.exl, h.sto.ref, h.sto.hlt, h.sto.nlt, h.sto.vcp, h.sto.szl⟩, ⟨h.ltr.n, h.ltr.sz, h.ltr.srt, h.ltr.org, h.ltr.gl, h.ltr.ad, h.ltr.ps, h.ltr.sm, h.ltr.pr, h.ltr.ex⟩, ⟨h.box.dlv, h.box.quo, h.box.cnt, h.box.lie, h.box.grp⟩, h.txb⟩
theorem lg_same (x : Int64) : lg_cmp x x = 0 := by
  unfold lg_cmp; simp
def wS (v : Int32) (s : Mem) : RR := mm_stj s 70 0 1 ((0 : Int32)) v.toInt64 fun s11 => mm_ri ((0 : Int32)) s11
theorem wS_ok {v : Int32} {s : Mem} : wS v s = mm_ri 0 (mm_wJ s 70 0 0 v.toInt64) := by
  unfold wS; rw [show (0 : Int32) = nI 0 from rfl, stj_ok (by decide) (by decide)]
section
variable {s : Mem} {A : Ab} {c x1 x2 : Nat} {FX FM : Mem → RR}
theorem W_I1 (h : Agr FX FM 2 x1 x2 s A c) (hR : RM s A) : ∃ e v A' s1, e < 2 ∧ WF A' (c + 1) ∧ mm_xI (FX s) wS (mm_h1 x1 (fun s => mm_ri 1 s)) = mm_ri (nI e) s1 ∧ RX s1 A' ∧ RM s1 A ∧ (e = 0 → s1.2 70 0 0 = v.toInt64) ∧ ∀ t, RM t A → OutM FM t e v A' := by
  obtain ⟨e, v, A', he, hW, ⟨s', h1, h2, h3⟩, hM⟩ := h
  have : e = 0 ∨ e = 1 := by omega
  rcases this with rfl | rfl
  · rw [if_pos rfl] at h1
    refine ⟨0, v, A', mm_wJ s' 70 0 0 v.toInt64, by decide, hW, ?_, h2.o70, (hR.fr h3).o70, fun _ => ?_, hM⟩
    · rw [h1]; show wS v s' = _; rw [wS_ok]; rfl
    · rw [wJ_eq, u2_at]
  · rw [if_neg (by decide), if_pos rfl] at h1
    refine ⟨1, v, A', s', by decide, hW, ?_, h2, hR.fr h3, (fun h => nomatch h), hM⟩
    rw [h1]
    show (if x1 = x1 then mm_ri 1 s' else none) = _
    rw [if_pos rfl]; rfl
theorem W_I2 (h : Agr FX FM 3 1 x2 s A c) (hR : RM s A) (hx : x2 ≠ 1) : ∃ e v A' s1, e < 3 ∧ WF A' (c + 1) ∧ mm_xI (FX s) wS (mm_h2 1 x2 (fun s => mm_ri 1 s) (fun s => mm_ri 2 s)) = mm_ri (nI e) s1 ∧ RX s1 A' ∧ RM s1 A ∧ (e = 0 → s1.2 70 0 0 = v.toInt64) ∧ ∀ t, RM t A → OutM FM t e v A' := by
  obtain ⟨e, v, A', he, hW, ⟨s', h1, h2, h3⟩, hM⟩ := h
  have : e = 0 ∨ e = 1 ∨ e = 2 := by omega
  rcases this with rfl | rfl | rfl
  · rw [if_pos rfl] at h1
    refine ⟨0, v, A', mm_wJ s' 70 0 0 v.toInt64, by decide, hW, ?_, h2.o70, (hR.fr h3).o70, fun _ => ?_, hM⟩
    · rw [h1]; show wS v s' = _; rw [wS_ok]; rfl
    · rw [wJ_eq, u2_at]
  · rw [if_neg (by decide), if_pos rfl] at h1
    refine ⟨1, v, A', s', by decide, hW, ?_, h2, hR.fr h3, (fun h => nomatch h), hM⟩
    rw [h1]; rfl
  · rw [if_neg (by decide), if_neg (by decide)] at h1
    refine ⟨2, v, A', s', by decide, hW, ?_, h2, hR.fr h3, (fun h => nomatch h), hM⟩
    rw [h1]
    show (if x2 = 1 then mm_ri 1 s' else if x2 = x2 then mm_ri 2 s' else none) = _
    rw [if_neg hx, if_pos rfl]; rfl
/-- the law's comparison -/
def cmpI (LOOP : Mem → RR) (v156 : Int32) (v180 : Int32) (s180 : Mem) : RR :=
  mm_cI (f_M_thrown s180) fun v186 s186 =>
    if v186 = v156 then (
      if ¬ v156 = 0 then LOOP s186 else (
        mm_ldj s186 70 0 1 ((0 : Int32)) fun v203 =>
        if (lg_cmp v203 v180.toInt64) = 0 then LOOP s186 else mm_rz ((0 : Int32)) s186)
    ) else mm_rz ((0 : Int32)) s186
theorem law_I {e E : Nat} {v : Int32} {A' : Ab} {s1 : Mem} {WX : RR} (he : e < E) (hE : E ≤ 3) (hw : WX = mm_ri (nI e) s1) (hX : RX s1 A') (hR : RM s1 A) (h70 : e = 0 → s1.2 70 0 0 = v.toInt64) (hM : ∀ t, RM t A → OutM FM t e v A') : ∃ s2, RX s2 A' ∧ RM s2 A' ∧ ∀ LOOP : Mem → RR, (mm_cI WX fun v156 s156 => mm_cI (FM s156) fun v180 s180 => cmpI LOOP v156 v180 s180) = LOOP s2 := by
  obtain ⟨t', v', g1, g2, g3, g4, g5⟩ := hM s1 hR
  refine ⟨t', hX.fr g5, g4, fun LOOP => ?_⟩
  rw [hw, cI_ok, g1, cI_ok]
  unfold cmpI f_M_thrown
  rw [gf_ok, cI_ok, g2, if_pos rfl]
  by_cases h0 : e = 0
  · have h7 : t'.2 70 0 0 = v.toInt64 := by rw [(g5 70 (by decide)).2]; exact h70 h0
    rw [if_neg (by rw [h0]; exact fun h => h rfl), show (0 : Int32) = nI 0 from rfl, ldj_ok (by decide) (by decide), h7, g3 h0, lg_same, if_pos (by decide)]
  · rw [if_pos (by rw [show (0 : Int32) = nI 0 from rfl, qI_inj (by omega) (by omega)]; exact h0)]
theorem W_V (h : AgrV FX FM s A c) (hR : RM s A) : ∃ A' s2, WF A' (c + 1) ∧ RX s2 A' ∧ RM s2 A' ∧ ∀ LOOP : Mem → RR, (mm_cI (mm_xV (FX s) (fun s4 => mm_ri ((0 : Int32)) s4) (mm_h1 1 (fun s10 => mm_ri ((1 : Int32)) s10))) fun v316 s316 => mm_cV (FM s316) fun s340 => mm_cI (f_M_thrown s340) fun v344 s344 => if v344 = v316 then LOOP s344 else mm_rz ((0 : Int32)) s344) = LOOP s2 := by
  obtain ⟨e, A', he, hW, ⟨s', h1, h2, h3⟩, hM⟩ := h
  obtain ⟨t', g1, g2, g3, g4⟩ := hM s' (hR.fr h3)
  refine ⟨A', t', hW, h2.fr g4, g3, fun LOOP => ?_⟩
  have hx : mm_xV (FX s) (fun s4 => mm_ri ((0 : Int32)) s4) (mm_h1 1 (fun s10 => mm_ri ((1 : Int32)) s10)) = mm_ri (nI e) s' := by
    have : e = 0 ∨ e = 1 := by omega
    rcases this with rfl | rfl
    · rw [if_pos rfl] at h1; rw [h1]; rfl
    · rw [if_neg (by decide)] at h1; rw [h1]; rfl
  rw [hx, cI_ok, g1, cV_ok]
  unfold f_M_thrown
  rw [gf_ok, cI_ok, g2, if_pos rfl]
-- group answers with a boolean
def wG (v7 : Int32) (s7 : Mem) : RR := if v7 = 0 then (mm_stj s7 70 0 1 ((0 : Int32)) ((0 : Int64)) fun s18 => mm_ri ((0 : Int32)) s18) else (mm_stj s7 70 0 1 ((0 : Int32)) ((1 : Int64)) fun s18 => mm_ri ((0 : Int32)) s18)
theorem W_G (h : Agr FX FM 2 1 1 s A c) (hR : RM s A) : ∃ A' s2, WF A' (c + 1) ∧ RX s2 A' ∧ RM s2 A' ∧ ∀ LOOP : Mem → RR, (mm_cI (mm_xI (FX s) wG (mm_h1 1 (fun s22 => mm_ri ((1 : Int32)) s22))) fun v377 s377 => mm_cI (FM s377) fun v401 s401 => mm_cI (f_M_thrown s401) fun v407 s407 =>
        if v407 = v377 then (
          if ¬ v377 = 0 then (LOOP s407) else (
            mm_ldj s407 70 0 1 ((0 : Int32)) fun v424 =>
            mm_jn (fun (y435 : Int64) s435 => if (lg_cmp v424 y435) = 0 then (LOOP s435) else (mm_rz ((0 : Int32)) s435)) (fun r435 =>
            if v401 = 0 then (r435 ((0 : Int64)) s407) else (r435 ((1 : Int64)) s407)))
        ) else (mm_rz ((0 : Int32)) s407)) = LOOP s2 := by
  obtain ⟨e, v, A', he, hW, ⟨s', h1, h2, h3⟩, hM⟩ := h
  have : e = 0 ∨ e = 1 := by omega
  rcases this with rfl | rfl
  · rw [if_pos rfl] at h1
    have hx : mm_xI (FX s) wG (mm_h1 1 (fun s22 => mm_ri ((1 : Int32)) s22)) = mm_ri 0 (mm_wJ s' 70 0 0 (if v = 0 then 0 else 1)) := by
      rw [h1]
      show wG v s' = _
      unfold wG
      split
      · rw [show (0 : Int32) = nI 0 from rfl, stj_ok (by decide) (by decide)]
      · rw [show (0 : Int32) = nI 0 from rfl, stj_ok (by decide) (by decide)]
    obtain ⟨t', v', g1, g2, g3, g4, g5⟩ := hM (mm_wJ s' 70 0 0 (if v = 0 then 0 else 1)) (hR.fr h3).o70
    refine ⟨A', t', hW, (h2.o70).fr g5, g4, fun LOOP => ?_⟩
    have h7 : t'.2 70 0 0 = (if v = 0 then 0 else 1) := by rw [(g5 70 (by decide)).2, wJ_eq, u2_at]
    rw [hx, cI_ok, g1, cI_ok]
    unfold f_M_thrown
    rw [gf_ok, cI_ok, g2, if_pos (show nI 0 = 0 from rfl), if_neg (by decide), show (0 : Int32) = nI 0 from rfl, ldj_ok (by decide) (by decide), h7, g3 rfl, jn_ok]
    by_cases hv : v = 0
    · rw [if_pos hv, if_pos (show v = nI 0 from hv)]
      show (if lg_cmp 0 0 = nI 0 then _ else _) = _
      rw [lg_same, if_pos (by decide)]
    · rw [if_neg hv, if_neg (show ¬ v = nI 0 from hv)]
      show (if lg_cmp 1 1 = nI 0 then _ else _) = _
      rw [lg_same, if_pos (by decide)]
  · rw [if_neg (by decide), if_pos rfl] at h1
    have hx : mm_xI (FX s) wG (mm_h1 1 (fun s22 => mm_ri ((1 : Int32)) s22)) = mm_ri 1 s' := by rw [h1]; rfl
    obtain ⟨t', v', g1, g2, g3, g4, g5⟩ := hM s' (hR.fr h3)
    refine ⟨A', t', hW, h2.fr g5, g4, fun LOOP => ?_⟩
    rw [hx, cI_ok, g1, cI_ok]
    unfold f_M_thrown
    rw [gf_ok, cI_ok, g2, if_pos (show nI 1 = 1 from rfl), if_pos (by decide)]
end

theorem RS_held {s : Mem} {sz : Nat → Nat} {S : Sto} (h : RS s sz S) {i t : Nat} : RS (mm_wI s 7 i 6 (nI t)) sz (mkSto S.cp S.vb S.hp S.nw S.kn S.bt (u1 S.held i t) S.ea S.rf) := by
  refine ⟨fun i' hi' => (wI_k (by decide)).trans (h.cap i' hi'), fun i' hi' => (wI_k (by decide)).trans (h.cop i' hi'), fun i' hi' => ?_, fun i' hi' => (wI_k (by decide)).trans (h.exl i' hi'), fun i' hi' => (wI_k (by decide)).trans (h.ref i' hi'), h.hop, h.new, h.kno, h.byt, h.hlt, h.nlt, h.vcp⟩
  show _ = nI (u1 S.held i t i')
  by_cases e : i' = i
  · rw [e, wI_y, u1_at]
  · rw [wI_n (by omega), u1_ne e]; exact h.hel i' hi'
def oPub (A : Ab) : Ab := mkAb A.now (u1 A.T (A.pubs + 1) (A.T 7)) (A.pubs + 1) (mkSto A.S.cp A.S.vb A.S.hp A.S.nw A.S.kn A.S.bt (u1 A.S.held 0 (A.pubs + 1)) A.S.ea A.S.rf) A.L A.B A.txt
section
variable {s : Mem} {A : Ab}
theorem X_publish_no (h : RX s A) (hp : A.pubs = 6) : f_X_publish s = mm_th 2 s := by
  unfold f_X_publish
  rw [gf_ok, h.pub, hp, if_neg (fun h9 => h9 rfl)]
theorem X_publish_yes (h : RX s A) (ok : TabOk (A.T 7)) (hp : A.pubs < 6) : ∃ s', f_X_publish s = mm_ri (nI (A.pubs + 1)) s' ∧ RX s' (oPub A) ∧ FrC s s' := by
  obtain ⟨L, hL, hs, hpm⟩ := h.tab 7 (by decide)
  have hlen : L.length ≤ 24 := by rw [hpm.length_eq]; exact ok.2.2
  have hw : RX (mm_wI s 0 0 3 (nI (A.pubs + 1))) (mkAb A.now A.T (A.pubs + 1) A.S A.L A.B A.txt) :=
    ⟨(wI_k (by decide)).trans h.clk, wI_y, (wI_k (by decide)).trans h.tln, fun t ht => (h.tab t ht).elim fun L hL => ⟨L, ⟨hL.1.cnt, hL.1.row⟩, hL.2⟩, h.sto.fr rfl rfl rfl rfl rfl,
      ⟨(wI_k (by decide)).trans h.ltr.n, h.ltr.org, h.ltr.gl, h.ltr.ad, h.ltr.srt, h.ltr.ps, h.ltr.pr, h.ltr.sz, h.ltr.sm, h.ltr.ov, h.ltr.ex⟩, ⟨h.box.grp, h.box.cnt, h.box.byt, h.box.quo, h.box.lie, h.box.dlv⟩, h.txb⟩
  have hL1 : TabC (mm_wI s 0 0 3 (nI (A.pubs + 1))) 7 L := ⟨hL.cnt, hL.row⟩
  obtain ⟨s1, e1, g1, f1⟩ := T_become (t := A.pubs + 1) hL1 hlen (by omega)
  have h2 := tab_upd hw f1 g1 hs hpm
  unfold f_X_publish
  rw [gf_ok, h.pub, if_pos (by rw [show (6 : Int32) = nI 6 from rfl, qI_inj (by omega) (by omega)]; omega), gf_ok, h.pub, pf_ok, show nI A.pubs + 1 = nI (A.pubs + 1) by simp only [qI_lit, qI_add], gf_ok, wI_y, al_ok (by omega) (by omega), e1, cV_ok, show (0 : Int32) = nI 0 from rfl, al_ok (by decide) (by decide), gf_ok, h2.pub, pf_ok, gf_ok, wI_ne (by decide), h2.pub]
  refine ⟨_, rfl, ⟨h2.clk, h2.pub, h2.tln, fun t ht => (h2.tab t ht).elim fun L hL => ⟨L, ⟨hL.1.cnt, hL.1.row⟩, hL.2⟩, RS_held h2.sto, ⟨h2.ltr.n, h2.ltr.org, h2.ltr.gl, h2.ltr.ad, h2.ltr.srt, h2.ltr.ps, h2.ltr.pr, h2.ltr.sz, h2.ltr.sm, h2.ltr.ov, h2.ltr.ex⟩, ⟨h2.box.grp, h2.box.cnt, h2.box.byt, h2.box.quo, h2.box.lie, h2.box.dlv⟩, h2.txb⟩, (FrC.wI (by decide)).tr ((FrC.ts f1).tr (FrC.wI (by decide)))⟩
end

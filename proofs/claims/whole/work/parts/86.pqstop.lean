theorem RM.thr {s : Mem} {A : Ab} (h : RM s A) {v : Int32} : RM (mm_wI s 30 0 31 v) A :=
  ⟨(wI_k (by decide)).trans h.clk, (wI_k (by decide)).trans h.pub, (wI_k (by decide)).trans h.tln, fun t ht => ⟨(h.tab t ht).cnt, (h.tab t ht).row⟩,
    h.sto.wI (by decide), ⟨(wI_k (by decide)).trans h.ltr.n, h.ltr.sz, h.ltr.srt, h.ltr.org, h.ltr.gl, h.ltr.ad, h.ltr.ps, h.ltr.sm, h.ltr.pr, h.ltr.ex⟩, ⟨h.box.dlv, h.box.quo, h.box.cnt, h.box.lie, h.box.grp⟩, h.txb⟩
theorem M_tab_upd {s s' : Mem} {A : Ab} (h : RM s A) (f : FrD s s') {T' : List Hlt} (hT : TabM s' 7 T') (ho : ∀ t, t < 7 → TabM s' t (A.T t)) : RM s' (mkAb A.now (u1 A.T 7 T') A.pubs A.S A.L A.B A.txt) :=
  ⟨by rw [(f 30 (by omega)).1]; exact h.clk, by rw [(f 30 (by omega)).1]; exact h.pub, by rw [(f 30 (by omega)).1]; exact h.tln,
    fun t ht => by
      show TabM s' t (u1 A.T 7 T' t)
      by_cases e : t = 7
      · rw [e, u1_at]; exact hT
      · rw [u1_ne e]; exact ho t (by omega),
    h.sto.fr (f 35 (by omega)).1 (f 46 (by omega)).1 (f 47 (by omega)).1 (f 48 (by omega)).1 (f 49 (by omega)).1 (f 50 (by omega)).1 (f 51 (by omega)).1 (f 52 (by omega)).1,
    ⟨by rw [(f 30 (by omega)).1]; exact h.ltr.n, by rw [(f 36 (by omega)).1]; exact h.ltr.sz, by rw [(f 37 (by omega)).1]; exact h.ltr.srt, by rw [(f 38 (by omega)).1]; exact h.ltr.org, by rw [(f 39 (by omega)).1]; exact h.ltr.gl, by rw [(f 40 (by omega)).1]; exact h.ltr.ad, by rw [(f 41 (by omega)).1]; exact h.ltr.ps, by rw [(f 42 (by omega)).1]; exact h.ltr.sm, by rw [(f 43 (by omega)).1]; exact h.ltr.pr, by rw [(f 44 (by omega)).1]; exact h.ltr.ex⟩,
    ⟨by rw [(f 45 (by omega)).1]; exact h.box.dlv, by rw [(f 53 (by omega)).1]; exact h.box.quo, by rw [(f 54 (by omega)).1]; exact h.box.cnt, by rw [(f 55 (by omega)).1]; exact h.box.lie, by rw [(f 56 (by omega)).1]; exact h.box.grp⟩,
    by rw [(f 57 (by omega)).1]; exact h.txb⟩

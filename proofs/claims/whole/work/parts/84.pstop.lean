-- stop
def hasT (T : List Hlt) (b m : Nat) : Prop := ∃ x ∈ T, x.1 = b ∧ x.2.2 = m
theorem tab_upd {s s' : Mem} {A : Ab} (h : RX s A) {t : Nat} (f : FrT t s s') {L' : List Hlt} (hL : TabC s' t L') (hs : SrtT L') {T' : List Hlt} (hp : L'.Perm T') : RX s' (mkAb A.now (u1 A.T t T') A.pubs A.S A.L A.B A.txt) :=
  ⟨by rw [f.1 0 (by omega)]; exact h.clk, by rw [f.1 0 (by omega)]; exact h.pub, by rw [f.1 0 (by omega)]; exact h.tln,
    fun t' ht' => by
      show ∃ L, TabC s' t' L ∧ SrtT L ∧ L.Perm (u1 A.T t T' t')
      by_cases e : t' = t
      · rw [e, u1_at]; exact ⟨L', hL, hs, hp⟩
      · rw [u1_ne e]
        obtain ⟨L, h1, h2⟩ := h.tab t' ht'
        exact ⟨L, ⟨by rw [f.2.1 1 t' e]; exact h1.cnt, by rw [f.2.1 2 t' e, f.2.1 3 t' e, f.2.1 4 t' e]; exact h1.row⟩, h2⟩,
    h.sto.fr (f.1 7 (by omega)) (f.1 8 (by omega)) (f.1 9 (by omega)) (by rw [f.2.2]) (f.1 11 (by omega)),
    h.ltr.fr (f.1 0 (by omega)) (f.1 19 (by omega)), h.box.fr (f.1 15 (by omega)) (f.1 16 (by omega)) (f.1 17 (by omega)) (by rw [f.2.2]),
    by rw [f.2.2]; exact h.txb⟩
section
variable {s : Mem} {A : Ab} {x1 x2 x3 : Int32}
theorem X_stop_bad (hg : (inR 8 12 x1 && inR 0 8 x2 && inR 0 10080 x3) = false) : f_X_stop x1 x2 x3 s = mm_th 1 s := by
  unfold f_X_stop
  rw [X_isBus, cI_ok]
  simp only [mm_jn]
  rw [X_isKiosk, cI_ok, show (10080 : Int32) = nI 10080 from rfl, X_isWithin, cI_ok]
  revert hg
  cases inR 8 12 x1 <;> cases inR 0 8 x2 <;> cases inR 0 10080 x3 <;> intro hg <;> first | rfl | exact nomatch hg
theorem X_stop_go {b k m : Nat} (hb : 8 ≤ b ∧ b < 12) (hk : k < 8) (hm : m < 10080) : f_X_stop (nI b) (nI k) (nI m) s = (mm_cI (f_T_find 7 (nI b) (nI m) s) fun v38 s38 => if ¬ v38 = -1 then mm_th 2 s38 else mm_gf s38 1 7 3 fun v49 => if ¬ v49 = 24 then (mm_cV (f_T_insert 7 (nI b) (nI k) (nI m) s38) fun s72 => mm_gf s72 1 7 3 fun v79 => mm_ri v79 s72) else mm_th 2 s38) := by
  unfold f_X_stop
  rw [X_isBus, cI_ok]
  simp only [mm_jn]
  rw [X_isKiosk, cI_ok, show (10080 : Int32) = nI 10080 from rfl, X_isWithin, cI_ok, inR_nI (by decide) (by decide) (by omega), inR_nI (by decide) (by decide) (by omega), inR_nI (by decide) (by decide) (by omega), decide_eq_true hb, decide_eq_true (show 0 ≤ k ∧ k < 8 by omega), decide_eq_true (show 0 ≤ m ∧ m < 10080 by omega), if_neg (by decide), if_neg (by decide), if_neg (by decide), show (1 : Int32) = bI true from rfl, X_demand]
  rfl
end

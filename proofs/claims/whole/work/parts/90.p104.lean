-- spoil
def oSpl (S : Sto) (i l j m : Nat) : Sto := (mkSto S.cp S.vb S.hp S.nw S.kn (fun i' l' j' => if i' = i ∧ l' = l ∧ j' = j then S.bt i l j ^^^ m else S.bt i' l' j') S.held S.ea S.rf)
theorem jn_ok {α : Type} {r : α → Mem → RR} {b : (α → Mem → RR) → RR} : mm_jn r b = b r := rfl
section
variable {s : Mem} {A : Ab} {c : Nat} {x1 x2 x3 x4 x5 : Int32}
theorem inR_no {lo hi a : Nat} (hl : lo < 2147483648) (hh : hi < 2147483648) (ha : a < 2147483648) (h : inR lo hi (nI a) = false) : ¬ (lo ≤ a ∧ a < hi) := by
  rw [inR_nI hl hh ha] at h; exact of_decide_eq_false h
theorem call_spoil (hX : RX s A) (hW : WF A c) : Agr (f_X_spoil x1 x2 x3 x4 x5) (f_M_spoil x1 x2 x3 x4 x5) 3 1 4 s A c := by
  have wl := hW.wk.wl
  have ws := hW.ws
  have h16 := wl.n16
  have hXg : f_X_spoil x1 x2 x3 x4 x5 s = if inR 0 12 x1 && inR 0 A.L.n x2 then (
    mm_al 16 x2 fun j31 =>
    mm_gf s 19 j31 6 fun v32 =>
    mm_cI (f_X_piecesIn v32 s) fun v40 s40 =>
    mm_cI (f_X_isWithin x3 v40 s40) fun v43 s43 =>
    mm_tV (f_X_demand v43 s43) fun s46 =>
    mm_cI (f_X_isWithin x4 (mm_min ((8 : Int32)) (v32 - (x3 * ((8 : Int32))))) s46) fun v63 s63 =>
    mm_tV (f_X_demand v63 s63) fun s66 =>
    mm_al 12 x1 fun j74 =>
    mm_cI (f_S_has j74 ((x2 * ((4 : Int32))) + x3) s66) fun v88 s88 =>
    if ¬ v88 = 0 then (
      mm_ldj s88 10 j74 64 ((x2 * ((4 : Int32))) + x3) fun v110 =>
      mm_cJ (f_X_shifted x5 x4 s88) fun v115 s115 =>
      mm_stj s115 10 j74 64 ((x2 * ((4 : Int32))) + x3) (v110 ^^^ v115) fun s119 =>
      mm_ldj s119 10 j74 64 ((x2 * ((4 : Int32))) + x3) fun v127 =>
      mm_cI (f_X_byteAt v127 x4 s119) fun v130 s130 =>
      mm_ri v130 s130
    ) else (
      mm_th 4 s88
    )) else mm_th 1 s := by
    unfold f_X_spoil
    simp only [mm_jn]
    rw [X_isStore, cI_ok]
    cases h1 : inR 0 12 x1 with
    | false => rw [if_pos (by decide), show (0 : Int32) = bI false from rfl, X_demand]; rfl
    | true =>
      rw [if_neg (by decide), gf_ok, hX.ltr.n, X_isWithin, cI_ok]
      cases h2 : inR 0 A.L.n x2 with
      | false => rw [if_pos (by decide), show (0 : Int32) = bI false from rfl, X_demand]; rfl
      | true => rw [if_neg (by decide), show f_X_demand 1 s = f_X_demand (bI true) s from rfl, X_demand, if_pos rfl, tV_ok]; rfl
  have hMg : ∀ t, RM t A → ∀ R : Int32 → Mem → RR, R = (fun y98 s98 =>
        mm_pf s98 30 0 31 y98 fun s98 =>
        mm_gf s98 30 0 31 fun v102 =>
        if v102 = 0 then (
          mm_cI (f_M_at x1 x2 x3 s98) fun v115 s115 =>
          mm_ld s115 49 0 6144 ((((8 : Int32)) * v115) + x4) fun v131 =>
          mm_st s115 49 0 6144 ((((8 : Int32)) * v115) + x4) (v131 ^^^ (x5 &&& ((255 : Int32)))) fun s139 =>
          mm_ld s139 49 0 6144 ((((8 : Int32)) * v115) + x4) fun v146 =>
          mm_ri v146 s139
        ) else (
          mm_ri ((0 : Int32)) s98
        )) → f_M_spoil x1 x2 x3 x4 x5 t = if ((inR 0 12 x1 && inR 0 A.L.n x2) && inR 0 4 x3) && inR 0 8 x4 then (mm_ld t 36 0 16 x2 fun v62 => if ((((8 : Int32)) * x3) + x4) < v62 then (mm_cI (f_M_at x1 x2 x3 t) fun v86 s86 => mm_ld s86 46 0 768 v86 fun v89 => if ¬ v89 = 0 then R 0 s86 else R 2 s86) else R 1 t) else R 1 t := by
    intro t ht R hR
    unfold f_M_spoil
    rw [show (11 : Int32) = nI 11 from rfl, M_upTo (by decide), cI_ok, jn_ok]
    have key : ∀ y : Int32, y = 0 → (mm_jn (fun (y69 : Int32) s69 => mm_jn R (fun r98 => if ¬ y69 = 0 then (mm_cI (f_M_at x1 x2 x3 s69) fun v86 s86 => mm_ld s86 46 0 768 v86 fun v89 => if ¬ v89 = 0 then r98 0 s86 else r98 2 s86) else r98 1 s69)) (fun r69 => if y = 0 then r69 y t else (mm_ld t 36 0 16 x2 fun v62 => if 8 * x3 + x4 < v62 then r69 y t else r69 0 t))) = R 1 t := by
      intro y hy
      rw [jn_ok, if_pos hy]
      show (if ¬ y = 0 then _ else R 1 t) = _
      rw [if_neg (fun h => h hy)]
    have key1 : (mm_jn (fun (y69 : Int32) s69 => mm_jn R (fun r98 => if ¬ y69 = 0 then (mm_cI (f_M_at x1 x2 x3 s69) fun v86 s86 => mm_ld s86 46 0 768 v86 fun v89 => if ¬ v89 = 0 then r98 0 s86 else r98 2 s86) else r98 1 s69)) (fun r69 => if (1 : Int32) = 0 then r69 1 t else (mm_ld t 36 0 16 x2 fun v62 => if 8 * x3 + x4 < v62 then r69 1 t else r69 0 t))) = (mm_ld t 36 0 16 x2 fun v62 => if ((((8 : Int32)) * x3) + x4) < v62 then (mm_cI (f_M_at x1 x2 x3 t) fun v86 s86 => mm_ld s86 46 0 768 v86 fun v89 => if ¬ v89 = 0 then R 0 s86 else R 2 s86) else R 1 t) := by
      rw [jn_ok, if_neg (by decide)]
      congr 1
    rw [← hR]
    cases h1 : inR 0 12 x1 with
    | false => rw [if_pos (by decide), if_neg (by simp)]; exact key 0 rfl
    | true =>
      rw [if_neg (by decide), M_isLetter ht, cI_ok]
      cases h2 : inR 0 A.L.n x2 with
      | false => rw [if_pos (by decide), if_neg (by simp)]; exact key 0 rfl
      | true =>
        rw [if_neg (by decide)]
        cases h3 : inR 0 4 x3 with
        | false =>
          rcases inR_not (by decide) h3 with h9 | ⟨h9, h8⟩
          · rw [if_pos h9, if_neg (by simp)]; exact key 0 rfl
          · rw [if_neg h9, if_pos (show (4 : Int32) ≤ x3 from h8), if_neg (by simp)]; exact key 0 rfl
        | true =>
          obtain ⟨p, _, hp, rfl⟩ := inR_get (by decide) (by decide) h3
          rw [if_neg (by rw [show (0 : Int32) = nI 0 from rfl, qI_lt (by omega) (by omega)]; omega), if_neg (by rw [show (4 : Int32) = nI 4 from rfl, qI_le (by omega) (by omega)]; omega)]
          cases h4 : inR 0 8 x4 with
          | false =>
            rcases inR_not (by decide) h4 with h9 | ⟨h9, h8⟩
            · rw [if_pos h9, if_neg (by simp)]; exact key 0 rfl
            · rw [if_neg h9, if_pos (show (8 : Int32) ≤ x4 from h8), if_neg (by simp)]; exact key 0 rfl
          | true =>
            obtain ⟨q, _, hq, rfl⟩ := inR_get (by decide) (by decide) h4
            rw [if_neg (by rw [show (0 : Int32) = nI 0 from rfl, qI_lt (by omega) (by omega)]; omega), if_neg (by rw [show (8 : Int32) = nI 8 from rfl, qI_le (by omega) (by omega)]; omega), if_pos (c := (((true && true) && true) && true) = true) rfl]
            exact key1
  have bad : (∀ t, RM t A → f_M_spoil x1 x2 x3 x4 x5 t = mm_ri 0 (mm_wI t 30 0 31 (nI 1))) → f_X_spoil x1 x2 x3 x4 x5 s = mm_th 1 s → Agr (f_X_spoil x1 x2 x3 x4 x5) (f_M_spoil x1 x2 x3 x4 x5) 3 1 4 s A c := fun hm hx =>
    Agr.no hX hW (e := 1) (by decide) (by decide) hx fun t ht => ⟨_, _, hm t ht, wI_y, ht.thr, FrN.wI (by decide)⟩
  cases h12 : (inR 0 12 x1 && inR 0 A.L.n x2) with
  | false =>
    refine bad (fun t ht => ?_) (by rw [hXg, h12]; rfl)
    rw [hMg t ht _ rfl, h12, if_neg (by simp)]
    show (mm_pf t 30 0 31 1 fun s98 => mm_gf s98 30 0 31 fun v102 => if v102 = 0 then _ else mm_ri 0 s98) = _
    rw [pf_ok, gf_ok, wI_y, if_neg (by decide)]; rfl
  | true =>
    rw [h12, if_pos rfl] at hXg
    have h12' := h12
    simp only [Bool.and_eq_true] at h12
    obtain ⟨h1, h2⟩ := h12
    obtain ⟨i, _, hi, rfl⟩ := inR_get (by decide) (by decide) h1
    obtain ⟨l, _, hl, rfl⟩ := inR_get (by decide) (by omega) h2
    have hs32 := wl.s32 l
    have hpc : pc (A.L.sz l) ≤ 4 := by unfold pc; omega
    rw [al_ok (by omega) (by omega), gf_ok, hX.ltr.sz l hl, X_piecesIn (by omega), cI_ok, X_isWithin, cI_ok, X_demand] at hXg
    cases h3 : inR 0 (pc (A.L.sz l)) x3 with
    | false =>
      refine bad (fun t ht => ?_) (by rw [hXg, h3]; rfl)
      rw [hMg t ht _ rfl, h12']
      cases h34 : (inR 0 4 x3 && inR 0 8 x4) with
      | false =>
        have : ((true && inR 0 4 x3) && inR 0 8 x4) = false := by rw [Bool.true_and]; exact h34
        rw [this, if_neg (by simp)]
        show (mm_pf t 30 0 31 1 fun s98 => mm_gf s98 30 0 31 fun v102 => if v102 = 0 then _ else mm_ri 0 s98) = _
        rw [pf_ok, gf_ok, wI_y, if_neg (by decide)]; rfl
      | true =>
        simp only [Bool.and_eq_true] at h34
        rw [h34.1, h34.2, if_pos (by rfl)]
        obtain ⟨p, _, hp, rfl⟩ := inR_get (by decide) (by decide) h34.1
        obtain ⟨q, _, hq, rfl⟩ := inR_get (by decide) (by decide) h34.2
        have := inR_no (by decide) (by omega) (by omega) h3
        rw [ld_ok (by omega) (by omega), ht.ltr.sz l hl, show (8 : Int32) * nI p + nI q = nI (8 * p + q) by simp only [qI_lit, qI_mul, qI_add], if_neg (by rw [qI_lt (by omega) (by omega)]; unfold pc at this; omega)]
        show (mm_pf t 30 0 31 1 fun s98 => mm_gf s98 30 0 31 fun v102 => if v102 = 0 then _ else mm_ri 0 s98) = _
        rw [pf_ok, gf_ok, wI_y, if_neg (by decide)]; rfl
    | true =>
      rw [h3, if_pos rfl, tV_ok] at hXg
      obtain ⟨p, _, hp, rfl⟩ := inR_get (by decide) (by omega) h3
      have h8p : 8 * p < A.L.sz l := by unfold pc at hp; omega
      have hmin : mm_min 8 (nI (A.L.sz l) - nI p * 8) = nI (min 8 (A.L.sz l - 8 * p)) := by
        rw [show nI p * 8 = nI (8 * p) by simp only [qI_lit, qI_mul]; congr 1; omega, qI_sub (by omega)]
        unfold mm_min
        by_cases e : A.L.sz l - 8 * p < 8
        · rw [if_pos (by rw [show (8 : Int32) = nI 8 from rfl, qI_lt (by omega) (by omega)]; exact e), Nat.min_eq_right (by omega)]
        · rw [if_neg (by rw [show (8 : Int32) = nI 8 from rfl, qI_lt (by omega) (by omega)]; exact e), Nat.min_eq_left (by omega)]; rfl
      rw [hmin, X_isWithin, cI_ok, X_demand] at hXg
      have h3' : inR 0 4 (nI p) = true := by rw [inR_nI (by decide) (by decide) (by omega)]; exact decide_eq_true (by omega)
      cases h4 : inR 0 (min 8 (A.L.sz l - 8 * p)) x4 with
      | false =>
        refine bad (fun t ht => ?_) (by rw [hXg, h4]; rfl)
        rw [hMg t ht _ rfl, h12', h3']
        cases h48 : inR 0 8 x4 with
        | false =>
          rw [if_neg (by simp)]
          show (mm_pf t 30 0 31 1 fun s98 => mm_gf s98 30 0 31 fun v102 => if v102 = 0 then _ else mm_ri 0 s98) = _
          rw [pf_ok, gf_ok, wI_y, if_neg (by decide)]; rfl
        | true =>
          rw [if_pos (by rfl)]
          obtain ⟨q, _, hq, rfl⟩ := inR_get (by decide) (by decide) h48
          have := inR_no (by decide) (by omega) (by omega) h4
          rw [ld_ok (by omega) (by omega), ht.ltr.sz l hl, show (8 : Int32) * nI p + nI q = nI (8 * p + q) by simp only [qI_lit, qI_mul, qI_add], if_neg (by rw [qI_lt (by omega) (by omega)]; omega)]
          show (mm_pf t 30 0 31 1 fun s98 => mm_gf s98 30 0 31 fun v102 => if v102 = 0 then _ else mm_ri 0 s98) = _
          rw [pf_ok, gf_ok, wI_y, if_neg (by decide)]; rfl
      | true =>
        rw [h4, if_pos rfl, tV_ok] at hXg
        obtain ⟨q, _, hq, rfl⟩ := inR_get (by decide) (by omega) h4
        have hq8 : q < 8 := by omega
        have hqs : 8 * p + q < A.L.sz l := by omega
        have h4' : inR 0 8 (nI q) = true := by rw [inR_nI (by decide) (by decide) (by omega)]; exact decide_eq_true (by omega)
        have e4 : nI l * 4 + nI p = nI (4 * l + p) := by simp only [qI_lit, qI_mul, qI_add]; congr 1; omega
        have hMo : ∀ t, RM t A → f_M_spoil (nI i) (nI l) (nI p) (nI q) x5 t = (if ¬ bI (A.S.cp i (4 * l + p)) = 0 then (mm_pf t 30 0 31 0 fun s98 =>
            mm_gf s98 30 0 31 fun v102 =>
            if v102 = 0 then (
              mm_cI (f_M_at (nI i) (nI l) (nI p) s98) fun v115 s115 =>
              mm_ld s115 49 0 6144 ((((8 : Int32)) * v115) + nI q) fun v131 =>
              mm_st s115 49 0 6144 ((((8 : Int32)) * v115) + nI q) (v131 ^^^ (x5 &&& ((255 : Int32)))) fun s139 =>
              mm_ld s139 49 0 6144 ((((8 : Int32)) * v115) + nI q) fun v146 =>
              mm_ri v146 s139
            ) else (
              mm_ri ((0 : Int32)) s98
            )) else mm_ri 0 (mm_wI t 30 0 31 (nI 2))) := by
          intro t ht
          rw [hMg t ht _ rfl, h12', h3', h4', if_pos (by rfl), ld_ok (by omega) (by omega), ht.ltr.sz l hl, show (8 : Int32) * nI p + nI q = nI (8 * p + q) by simp only [qI_lit, qI_mul, qI_add], if_pos (by rw [qI_lt (by omega) (by omega)]; exact hqs), M_at, cI_ok, ld_ok (by omega) (by omega), show 64 * i + 4 * l + p = 64 * i + (4 * l + p) by omega, ht.sto.cop i (4 * l + p) hi (by omega)]
          cases A.S.cp i (4 * l + p) with
          | true => rw [if_pos (by decide), if_pos (by decide)]
          | false =>
            rw [if_neg (by decide), if_neg (by decide)]
            show (mm_pf t 30 0 31 2 fun s98 => mm_gf s98 30 0 31 fun v102 => if v102 = 0 then _ else _) = _
            rw [pf_ok, gf_ok, wI_y, if_neg (by decide)]; rfl
        rw [al_ok (by omega) (by omega), e4, S_has hX.sto hi (by omega), cI_ok] at hXg
        cases hcp : A.S.cp i (4 * l + p) with
        | false =>
          refine Agr.no hX hW (e := 2) (by decide) (by decide) ?_ fun t ht => ⟨0, mm_wI t 30 0 31 (nI 2), ?_, wI_y, ht.thr, FrN.wI (by decide)⟩
          · rw [hXg, hcp, if_neg (by decide)]; rfl
          · rw [hMo t ht, hcp, if_neg (by decide)]
        | true =>
          obtain ⟨m, hm, hm'⟩ := nI_and255 x5
          have hvb := hX.sto.vcp i _ hcp
          have hb0 := hX.sto.byt i l (8 * p + q) hi (by omega) hqs (by rw [show (8 * p + q) / 8 = p by omega]; exact hvb)
          rw [show (8 * p + q) / 8 = p by omega, show (8 * p + q) % 8 = q by omega] at hb0
          have hW1 : WF (mkAb A.now A.T A.pubs (oSpl A.S i l (8 * p + q) m) A.L A.B A.txt) c := ⟨hW.now, hW.pub, hW.tab, hW.hel, ⟨wl, hW.wk.wb, hW.wk.dlk, hW.wk.dln⟩, ⟨ws.cap, ws.cpn, ws.nhp, ws.par, ws.kn0, ws.k2, ws.knn, ws.nwn, ws.vbn, ws.hb, ws.nb⟩, hW.ps, hW.t32⟩
          rw [hcp, if_pos (by decide), ldj_ok (by omega) (by omega), X_shifted, cJ_ok, stj_ok (by omega) (by omega), ldj_ok (by omega) (by omega), wJ_eq, u2_at, X_byteAt, cI_ok, byt_xor _ _ hq8 hq8, if_pos rfl, hb0, hm', nI_xor] at hXg
          have hS1 : RS (mm_wJ s 10 i (4 * l + p) (s.2 10 i (4 * l + p) ^^^ mm_lshl (x5.toInt64 &&& 255) (nI (8 * q)))) A.L.sz (oSpl A.S i l (8 * p + q) m) := by
            have h := hX.sto
            refine ⟨h.cap, h.cop, h.hel, h.exl, h.ref, h.hop, h.new, h.kno, fun i' l' j' g1 g2 g3 g4 => ?_, h.hlt, h.nlt, h.vcp⟩
            have g5 := wl.s32 l'
            show _ = nI (if i' = i ∧ l' = l ∧ j' = 8 * p + q then A.S.bt i l (8 * p + q) ^^^ m else A.S.bt i' l' j')
            have g6 := h.byt i' l' j' g1 g2 g3 g4
            rw [wJ_eq]
            by_cases c1 : i' = i ∧ 4 * l' + j' / 8 = 4 * l + p
            · have c2 : l' = l ∧ j' / 8 = p := by omega
              rw [c1.1, c1.2, u2_at, byt_xor _ _ hq8 (by omega)]
              rw [c1.1, c1.2] at g6
              by_cases c3 : j' % 8 = q
              · have c4 : j' = 8 * p + q := by omega
                rw [if_pos c3, if_pos ⟨rfl, c2.1, c4⟩, g6, hm', nI_xor, c2.1, c4]
              · rw [if_neg c3, if_neg (by omega), g6]
            · rw [u2_ne c1, if_neg (by omega)]; exact g6
          refine Agr.yes (by decide) hW1.mono hXg (hX.sto' (FrS.wJ (by omega)) hS1) (FrC.wJ (by decide)) fun t ht => ?_
          have ht1 := ht.thr (v := nI 0)
          have hbM := ht1.sto.byt i l (8 * p + q) hi (by omega) hqs (by rw [show (8 * p + q) / 8 = p by omega]; exact hvb)
          have e8 : (8 : Int32) * nI (64 * i + 4 * l + p) + nI q = nI (512 * i + 32 * l + (8 * p + q)) := by simp only [qI_lit, qI_mul, qI_add]; congr 1; omega
          refine ⟨mm_wI (mm_wI t 30 0 31 (nI 0)) 49 0 (512 * i + 32 * l + (8 * p + q)) (nI (A.S.bt i l (8 * p + q) ^^^ m)), ?_, ?_, ht1.sto' (FrQ.wI (by omega)) ?_, (FrN.wI (by decide)).tr (FrN.wI (by decide))⟩
          · rw [hMo t ht, hcp, if_pos (by decide), show (0 : Int32) = nI 0 from rfl, pf_ok, gf_ok, wI_y, if_pos rfl, M_at, cI_ok, e8, ld_ok (by omega) (by omega), hbM, hm', nI_xor, st_ok (by omega) (by omega), ld_ok (by omega) (by omega), wI_y]
          · rw [wI_ne (by decide), wI_y]
          · have h := ht1.sto
            refine ⟨h.hel, h.cop, h.hop, h.new, fun i' l' j' g1 g2 g3 g4 => ?_, h.kno, h.exl, h.ref, h.hlt, h.nlt, h.vcp, h.szl⟩
            have g5 := wl.s32 l'
            show _ = nI (if i' = i ∧ l' = l ∧ j' = 8 * p + q then A.S.bt i l (8 * p + q) ^^^ m else A.S.bt i' l' j')
            by_cases c1 : i' = i ∧ l' = l ∧ j' = 8 * p + q
            · rw [if_pos c1, c1.1, c1.2.1, c1.2.2, wI_y]
            · rw [if_neg c1, wI_n (by omega)]; exact h.byt i' l' j' g1 g2 g3 g4
end

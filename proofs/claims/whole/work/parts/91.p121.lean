-- the law's loop
theorem sub6 {L a : Nat} (hL : L < 1000000) (ha : a < 1000000) : nI L - 6 < nI a ↔ L < a + 6 := by
  by_cases h : 6 ≤ L
  · rw [show (6 : Int32) = nI 6 from rfl, qI_sub h, qI_lt (by omega) (by omega)]; omega
  · have h0 : (nI L - 6).toInt < 0 := by
      have h5 : L < 6 := by omega
      match L, h5 with
      | 0, _ => decide
      | 1, _ => decide
      | 2, _ => decide
      | 3, _ => decide
      | 4, _ => decide
      | 5, _ => decide
    rw [Int32.lt_iff_toInt_lt, qI_int (show a < 2147483648 by omega)]
    omega
theorem sx_ok {xs : Nat → Int32} {L j : Nat} (h : j < L) (hj : j < 2147483648) (K : Int32 → RR) : mm_sx xs L (nI j) K = K (xs j) := by
  unfold mm_sx
  rw [if_neg (by rw [qI_nat hj, show (0 : Int32) = nI 0 from rfl, qI_lt hj (by omega)]; omega), qI_nat hj]
section
variable {xs : Nat → Int32} {L i n : Nat} {s : Mem} {A : Ab} {k : Mem → RR}
def LpOk (xs : Nat → Int32) (L : Nat) (k : Mem → RR) (i n : Nat) : Prop := ∀ (s : Mem) (A : Ab), RX s A → RM s A → WF A i → ∃ q, lp_W_law xs L k n (nI (6 * i)) s = some (.inr (some (.int 1)), q)
theorem law_stop (hX : RX s A) (hR : RM s A) (hW : WF A i) (hi : 6 * i + 6 ≤ L) (hL : L ≤ 3072) (ih : LpOk xs L k (i + 1) n) : ∃ q, (mm_sx xs L (nI (6 * i) + 1) fun a1 => mm_sx xs L (nI (6 * i) + 2) fun a2 => mm_sx xs L (nI (6 * i) + 3) fun a3 => mm_cI (f_W_stop a1 a2 a3 s) fun v s1 => mm_sx xs L (nI (6 * i) + 1) fun b1 => mm_sx xs L (nI (6 * i) + 2) fun b2 => mm_sx xs L (nI (6 * i) + 3) fun b3 => mm_cI (f_M_stop b1 b2 b3 s1) fun w s2 => mm_cI (f_M_thrown s2) fun y s3 => if y = v then (if ¬ v = 0 then lp_W_law xs L k n (nI (6 * i) + 6) s3 else (mm_ldj s3 70 0 1 ((0 : Int32)) fun z => if (lg_cmp z w.toInt64) = 0 then lp_W_law xs L k n (nI (6 * i) + 6) s3 else mm_rz ((0 : Int32)) s3)) else mm_rz ((0 : Int32)) s3) = some (.inr (some (.int 1)), q) := by
  have e6 : nI (6 * i) + 6 = nI (6 * (i + 1)) := by simp only [qI_lit, qI_add]; congr 1
  have sx1 : ∀ K : Int32 → RR, mm_sx xs L (nI (6 * i) + 1) K = K (xs (6 * i + 1)) := fun K => by rw [show nI (6 * i) + 1 = nI (6 * i + 1) by simp only [qI_lit, qI_add]]; exact sx_ok (by omega) (by omega) K
  have sx2 : ∀ K : Int32 → RR, mm_sx xs L (nI (6 * i) + 2) K = K (xs (6 * i + 2)) := fun K => by rw [show nI (6 * i) + 2 = nI (6 * i + 2) by simp only [qI_lit, qI_add]]; exact sx_ok (by omega) (by omega) K
  have sx3 : ∀ K : Int32 → RR, mm_sx xs L (nI (6 * i) + 3) K = K (xs (6 * i + 3)) := fun K => by rw [show nI (6 * i) + 3 = nI (6 * i + 3) by simp only [qI_lit, qI_add]]; exact sx_ok (by omega) (by omega) K
  obtain ⟨e, v, A2, s1, he, hW2, hw, hX1, hR1, h70, hM⟩ := W_I2 (call_stop (x1 := xs (6 * i + 1)) (x2 := xs (6 * i + 2)) (x3 := xs (6 * i + 3)) hX hW) hR (by decide)
  obtain ⟨s2, hX2, hR2, hl⟩ := law_I (WX := f_W_stop (xs (6 * i + 1)) (xs (6 * i + 2)) (xs (6 * i + 3)) s) he (by decide) hw hX1 hR1 h70 hM
  obtain ⟨q, hq⟩ := ih s2 A2 hX2 hR2 hW2
  refine ⟨q, Eq.trans ?_ ((hl (fun s => lp_W_law xs L k n (nI (6 * (i + 1))) s)).trans hq)⟩
  simp only [cmpI, e6, sx1, sx2, sx3]
theorem law_cancel (hX : RX s A) (hR : RM s A) (hW : WF A i) (hi : 6 * i + 6 ≤ L) (hL : L ≤ 3072) (ih : LpOk xs L k (i + 1) n) : ∃ q, (mm_sx xs L (nI (6 * i) + 1) fun a1 => mm_sx xs L (nI (6 * i) + 2) fun a2 => mm_cI (f_X_cancel a1 a2 s) fun v s1 => mm_sx xs L (nI (6 * i) + 1) fun b1 => mm_sx xs L (nI (6 * i) + 2) fun b2 => mm_cI (f_M_cancel b1 b2 s1) fun w s2 => if v = w then lp_W_law xs L k n (nI (6 * i) + 6) s2 else mm_rz ((0 : Int32)) s2) = some (.inr (some (.int 1)), q) := by
  have e6 : nI (6 * i) + 6 = nI (6 * (i + 1)) := by simp only [qI_lit, qI_add]; congr 1
  have sx1 : ∀ K : Int32 → RR, mm_sx xs L (nI (6 * i) + 1) K = K (xs (6 * i + 1)) := fun K => by rw [show nI (6 * i) + 1 = nI (6 * i + 1) by simp only [qI_lit, qI_add]]; exact sx_ok (by omega) (by omega) K
  have sx2 : ∀ K : Int32 → RR, mm_sx xs L (nI (6 * i) + 2) K = K (xs (6 * i + 2)) := fun K => by rw [show nI (6 * i) + 2 = nI (6 * i + 2) by simp only [qI_lit, qI_add]]; exact sx_ok (by omega) (by omega) K
  obtain ⟨v, A2, s1, s2, hW2, e1, e2, hX2, hR2⟩ := call_cancel (x1 := xs (6 * i + 1)) (x2 := xs (6 * i + 2)) hX hR hW
  obtain ⟨q, hq⟩ := ih s2 A2 hX2 hR2 hW2
  refine ⟨q, Eq.trans ?_ hq⟩
  simp only [e6, sx1, sx2]
  rw [e1, cI_ok, e2, cI_ok, if_pos rfl]
theorem law_publish (hX : RX s A) (hR : RM s A) (hW : WF A i) (hi : 6 * i + 6 ≤ L) (hL : L ≤ 3072) (ih : LpOk xs L k (i + 1) n) : ∃ q, (mm_cI (f_W_publish  s) fun v s1 => mm_cI (f_M_publish  s1) fun w s2 => mm_cI (f_M_thrown s2) fun y s3 => if y = v then (if ¬ v = 0 then lp_W_law xs L k n (nI (6 * i) + 6) s3 else (mm_ldj s3 70 0 1 ((0 : Int32)) fun z => if (lg_cmp z w.toInt64) = 0 then lp_W_law xs L k n (nI (6 * i) + 6) s3 else mm_rz ((0 : Int32)) s3)) else mm_rz ((0 : Int32)) s3) = some (.inr (some (.int 1)), q) := by
  have e6 : nI (6 * i) + 6 = nI (6 * (i + 1)) := by simp only [qI_lit, qI_add]; congr 1
  obtain ⟨e, v, A2, s1, he, hW2, hw, hX1, hR1, h70, hM⟩ := W_I1 (call_publish  hX hW) hR
  obtain ⟨s2, hX2, hR2, hl⟩ := law_I (WX := f_W_publish  s) he (by decide) hw hX1 hR1 h70 hM
  obtain ⟨q, hq⟩ := ih s2 A2 hX2 hR2 hW2
  refine ⟨q, Eq.trans ?_ ((hl (fun s => lp_W_law xs L k n (nI (6 * (i + 1))) s)).trans hq)⟩
  simp only [cmpI, e6]
theorem law_household (hX : RX s A) (hR : RM s A) (hW : WF A i) (hi : 6 * i + 6 ≤ L) (hL : L ≤ 3072) (ih : LpOk xs L k (i + 1) n) : ∃ q, (mm_sx xs L (nI (6 * i) + 1) fun a1 => mm_sx xs L (nI (6 * i) + 2) fun a2 => mm_sx xs L (nI (6 * i) + 3) fun a3 => mm_cI (f_W_household a1 a2 a3 s) fun v s1 => mm_sx xs L (nI (6 * i) + 1) fun b1 => mm_sx xs L (nI (6 * i) + 2) fun b2 => mm_sx xs L (nI (6 * i) + 3) fun b3 => mm_cV (f_M_household b1 b2 b3 s1) fun s2 => mm_cI (f_M_thrown s2) fun y s3 => if y = v then lp_W_law xs L k n (nI (6 * i) + 6) s3 else mm_rz ((0 : Int32)) s3) = some (.inr (some (.int 1)), q) := by
  have e6 : nI (6 * i) + 6 = nI (6 * (i + 1)) := by simp only [qI_lit, qI_add]; congr 1
  have sx1 : ∀ K : Int32 → RR, mm_sx xs L (nI (6 * i) + 1) K = K (xs (6 * i + 1)) := fun K => by rw [show nI (6 * i) + 1 = nI (6 * i + 1) by simp only [qI_lit, qI_add]]; exact sx_ok (by omega) (by omega) K
  have sx2 : ∀ K : Int32 → RR, mm_sx xs L (nI (6 * i) + 2) K = K (xs (6 * i + 2)) := fun K => by rw [show nI (6 * i) + 2 = nI (6 * i + 2) by simp only [qI_lit, qI_add]]; exact sx_ok (by omega) (by omega) K
  have sx3 : ∀ K : Int32 → RR, mm_sx xs L (nI (6 * i) + 3) K = K (xs (6 * i + 3)) := fun K => by rw [show nI (6 * i) + 3 = nI (6 * i + 3) by simp only [qI_lit, qI_add]]; exact sx_ok (by omega) (by omega) K
  obtain ⟨A2, s2, hW2, hX2, hR2, hl⟩ := W_V (call_household (x1 := xs (6 * i + 1)) (x2 := xs (6 * i + 2)) (x3 := xs (6 * i + 3)) hX hW) hR
  obtain ⟨q, hq⟩ := ih s2 A2 hX2 hR2 hW2
  refine ⟨q, Eq.trans ?_ ((hl (fun s => lp_W_law xs L k n (nI (6 * (i + 1))) s)).trans hq)⟩
  simp only [e6, sx1, sx2, sx3]
  rfl
theorem law_group (hX : RX s A) (hR : RM s A) (hW : WF A i) (hi : 6 * i + 6 ≤ L) (hL : L ≤ 3072) (ih : LpOk xs L k (i + 1) n) : ∃ q, (mm_sx xs L (nI (6 * i) + 1) fun a1 => mm_sx xs L (nI (6 * i) + 2) fun a2 => mm_sx xs L (nI (6 * i) + 3) fun a3 => mm_cI (f_W_group a1 a2 a3 s) fun v s1 => mm_sx xs L (nI (6 * i) + 1) fun b1 => mm_sx xs L (nI (6 * i) + 2) fun b2 => mm_sx xs L (nI (6 * i) + 3) fun b3 => mm_cI (f_M_group b1 b2 b3 s1) fun w s2 => mm_cI (f_M_thrown s2) fun y s3 => if y = v then (if ¬ v = 0 then lp_W_law xs L k n (nI (6 * i) + 6) s3 else (mm_ldj s3 70 0 1 ((0 : Int32)) fun z => mm_jn (fun (u : Int64) s4 => if (lg_cmp z u) = 0 then lp_W_law xs L k n (nI (6 * i) + 6) s4 else mm_rz ((0 : Int32)) s4) (fun r => if w = 0 then r ((0 : Int64)) s3 else r ((1 : Int64)) s3))) else mm_rz ((0 : Int32)) s3) = some (.inr (some (.int 1)), q) := by
  have e6 : nI (6 * i) + 6 = nI (6 * (i + 1)) := by simp only [qI_lit, qI_add]; congr 1
  have sx1 : ∀ K : Int32 → RR, mm_sx xs L (nI (6 * i) + 1) K = K (xs (6 * i + 1)) := fun K => by rw [show nI (6 * i) + 1 = nI (6 * i + 1) by simp only [qI_lit, qI_add]]; exact sx_ok (by omega) (by omega) K
  have sx2 : ∀ K : Int32 → RR, mm_sx xs L (nI (6 * i) + 2) K = K (xs (6 * i + 2)) := fun K => by rw [show nI (6 * i) + 2 = nI (6 * i + 2) by simp only [qI_lit, qI_add]]; exact sx_ok (by omega) (by omega) K
  have sx3 : ∀ K : Int32 → RR, mm_sx xs L (nI (6 * i) + 3) K = K (xs (6 * i + 3)) := fun K => by rw [show nI (6 * i) + 3 = nI (6 * i + 3) by simp only [qI_lit, qI_add]]; exact sx_ok (by omega) (by omega) K
  obtain ⟨A2, s2, hW2, hX2, hR2, hl⟩ := W_G (call_group (x1 := xs (6 * i + 1)) (x2 := xs (6 * i + 2)) (x3 := xs (6 * i + 3)) hX hW) hR
  obtain ⟨q, hq⟩ := ih s2 A2 hX2 hR2 hW2
  refine ⟨q, Eq.trans ?_ ((hl (fun s => lp_W_law xs L k n (nI (6 * (i + 1))) s)).trans hq)⟩
  simp only [e6, sx1, sx2, sx3]
  rfl
theorem law_key (hX : RX s A) (hR : RM s A) (hW : WF A i) (hi : 6 * i + 6 ≤ L) (hL : L ≤ 3072) (ih : LpOk xs L k (i + 1) n) : ∃ q, (mm_sx xs L (nI (6 * i) + 1) fun a1 => mm_cI (f_X_key a1 s) fun v s1 => mm_sx xs L (nI (6 * i) + 1) fun b1 => mm_cI (f_M_key b1 s1) fun w s2 => if v = w then lp_W_law xs L k n (nI (6 * i) + 6) s2 else mm_rz ((0 : Int32)) s2) = some (.inr (some (.int 1)), q) := by
  have e6 : nI (6 * i) + 6 = nI (6 * (i + 1)) := by simp only [qI_lit, qI_add]; congr 1
  have sx1 : ∀ K : Int32 → RR, mm_sx xs L (nI (6 * i) + 1) K = K (xs (6 * i + 1)) := fun K => by rw [show nI (6 * i) + 1 = nI (6 * i + 1) by simp only [qI_lit, qI_add]]; exact sx_ok (by omega) (by omega) K
  obtain ⟨v, A2, s1, s2, hW2, e1, e2, hX2, hR2⟩ := call_key (x1 := xs (6 * i + 1)) hX hR hW
  obtain ⟨q, hq⟩ := ih s2 A2 hX2 hR2 hW2
  refine ⟨q, Eq.trans ?_ hq⟩
  simp only [e6, sx1]
  rw [e1, cI_ok, e2, cI_ok, if_pos rfl]
theorem law_post (hX : RX s A) (hR : RM s A) (hW : WF A i) (hi : 6 * i + 6 ≤ L) (hL : L ≤ 3072) (ih : LpOk xs L k (i + 1) n) : ∃ q, (mm_sx xs L (nI (6 * i) + 1) fun a1 => mm_sx xs L (nI (6 * i) + 2) fun a2 => mm_sx xs L (nI (6 * i) + 3) fun a3 => mm_sx xs L (nI (6 * i) + 4) fun a4 => mm_cI (f_W_post a1 a2 a3 a4 s) fun v s1 => mm_sx xs L (nI (6 * i) + 1) fun b1 => mm_sx xs L (nI (6 * i) + 2) fun b2 => mm_sx xs L (nI (6 * i) + 3) fun b3 => mm_sx xs L (nI (6 * i) + 4) fun b4 => mm_cI (f_M_post b1 b2 b3 b4 s1) fun w s2 => mm_cI (f_M_thrown s2) fun y s3 => if y = v then (if ¬ v = 0 then lp_W_law xs L k n (nI (6 * i) + 6) s3 else (mm_ldj s3 70 0 1 ((0 : Int32)) fun z => if (lg_cmp z w.toInt64) = 0 then lp_W_law xs L k n (nI (6 * i) + 6) s3 else mm_rz ((0 : Int32)) s3)) else mm_rz ((0 : Int32)) s3) = some (.inr (some (.int 1)), q) := by
  have e6 : nI (6 * i) + 6 = nI (6 * (i + 1)) := by simp only [qI_lit, qI_add]; congr 1
  have sx1 : ∀ K : Int32 → RR, mm_sx xs L (nI (6 * i) + 1) K = K (xs (6 * i + 1)) := fun K => by rw [show nI (6 * i) + 1 = nI (6 * i + 1) by simp only [qI_lit, qI_add]]; exact sx_ok (by omega) (by omega) K
  have sx2 : ∀ K : Int32 → RR, mm_sx xs L (nI (6 * i) + 2) K = K (xs (6 * i + 2)) := fun K => by rw [show nI (6 * i) + 2 = nI (6 * i + 2) by simp only [qI_lit, qI_add]]; exact sx_ok (by omega) (by omega) K
  have sx3 : ∀ K : Int32 → RR, mm_sx xs L (nI (6 * i) + 3) K = K (xs (6 * i + 3)) := fun K => by rw [show nI (6 * i) + 3 = nI (6 * i + 3) by simp only [qI_lit, qI_add]]; exact sx_ok (by omega) (by omega) K
  have sx4 : ∀ K : Int32 → RR, mm_sx xs L (nI (6 * i) + 4) K = K (xs (6 * i + 4)) := fun K => by rw [show nI (6 * i) + 4 = nI (6 * i + 4) by simp only [qI_lit, qI_add]]; exact sx_ok (by omega) (by omega) K
  obtain ⟨e, v, A2, s1, he, hW2, hw, hX1, hR1, h70, hM⟩ := W_I2 (call_post (x1 := xs (6 * i + 1)) (x2 := xs (6 * i + 2)) (x3 := xs (6 * i + 3)) (x4 := xs (6 * i + 4)) hX hW (by omega)) hR (by decide)
  obtain ⟨s2, hX2, hR2, hl⟩ := law_I (WX := f_W_post (xs (6 * i + 1)) (xs (6 * i + 2)) (xs (6 * i + 3)) (xs (6 * i + 4)) s) he (by decide) hw hX1 hR1 h70 hM
  obtain ⟨q, hq⟩ := ih s2 A2 hX2 hR2 hW2
  refine ⟨q, Eq.trans ?_ ((hl (fun s => lp_W_law xs L k n (nI (6 * (i + 1))) s)).trans hq)⟩
  simp only [cmpI, e6, sx1, sx2, sx3, sx4]
theorem law_minute (hX : RX s A) (hR : RM s A) (hW : WF A i) (hi : 6 * i + 6 ≤ L) (hL : L ≤ 3072) (ih : LpOk xs L k (i + 1) n) : ∃ q, (mm_sx xs L (nI (6 * i) + 1) fun a1 => mm_cI (f_W_minute a1 s) fun v s1 => mm_sx xs L (nI (6 * i) + 1) fun b1 => mm_cI (f_M_minute b1 s1) fun w s2 => mm_cI (f_M_thrown s2) fun y s3 => if y = v then (if ¬ v = 0 then lp_W_law xs L k n (nI (6 * i) + 6) s3 else (mm_ldj s3 70 0 1 ((0 : Int32)) fun z => if (lg_cmp z w.toInt64) = 0 then lp_W_law xs L k n (nI (6 * i) + 6) s3 else mm_rz ((0 : Int32)) s3)) else mm_rz ((0 : Int32)) s3) = some (.inr (some (.int 1)), q) := by
  have e6 : nI (6 * i) + 6 = nI (6 * (i + 1)) := by simp only [qI_lit, qI_add]; congr 1
  have sx1 : ∀ K : Int32 → RR, mm_sx xs L (nI (6 * i) + 1) K = K (xs (6 * i + 1)) := fun K => by rw [show nI (6 * i) + 1 = nI (6 * i + 1) by simp only [qI_lit, qI_add]]; exact sx_ok (by omega) (by omega) K
  obtain ⟨e, v, A2, s1, he, hW2, hw, hX1, hR1, h70, hM⟩ := W_I1 (call_minute (x1 := xs (6 * i + 1)) hX hW (by omega)) hR
  obtain ⟨s2, hX2, hR2, hl⟩ := law_I (WX := f_W_minute (xs (6 * i + 1)) s) he (by decide) hw hX1 hR1 h70 hM
  obtain ⟨q, hq⟩ := ih s2 A2 hX2 hR2 hW2
  refine ⟨q, Eq.trans ?_ ((hl (fun s => lp_W_law xs L k n (nI (6 * (i + 1))) s)).trans hq)⟩
  simp only [cmpI, e6, sx1]
theorem law_meet (hX : RX s A) (hR : RM s A) (hW : WF A i) (hi : 6 * i + 6 ≤ L) (hL : L ≤ 3072) (ih : LpOk xs L k (i + 1) n) : ∃ q, (mm_sx xs L (nI (6 * i) + 1) fun a1 => mm_sx xs L (nI (6 * i) + 2) fun a2 => mm_sx xs L (nI (6 * i) + 3) fun a3 => mm_cI (f_W_meet a1 a2 a3 s) fun v s1 => mm_sx xs L (nI (6 * i) + 1) fun b1 => mm_sx xs L (nI (6 * i) + 2) fun b2 => mm_sx xs L (nI (6 * i) + 3) fun b3 => mm_cI (f_M_meet b1 b2 b3 s1) fun w s2 => mm_cI (f_M_thrown s2) fun y s3 => if y = v then (if ¬ v = 0 then lp_W_law xs L k n (nI (6 * i) + 6) s3 else (mm_ldj s3 70 0 1 ((0 : Int32)) fun z => if (lg_cmp z w.toInt64) = 0 then lp_W_law xs L k n (nI (6 * i) + 6) s3 else mm_rz ((0 : Int32)) s3)) else mm_rz ((0 : Int32)) s3) = some (.inr (some (.int 1)), q) := by
  have e6 : nI (6 * i) + 6 = nI (6 * (i + 1)) := by simp only [qI_lit, qI_add]; congr 1
  have sx1 : ∀ K : Int32 → RR, mm_sx xs L (nI (6 * i) + 1) K = K (xs (6 * i + 1)) := fun K => by rw [show nI (6 * i) + 1 = nI (6 * i + 1) by simp only [qI_lit, qI_add]]; exact sx_ok (by omega) (by omega) K
  have sx2 : ∀ K : Int32 → RR, mm_sx xs L (nI (6 * i) + 2) K = K (xs (6 * i + 2)) := fun K => by rw [show nI (6 * i) + 2 = nI (6 * i + 2) by simp only [qI_lit, qI_add]]; exact sx_ok (by omega) (by omega) K
  have sx3 : ∀ K : Int32 → RR, mm_sx xs L (nI (6 * i) + 3) K = K (xs (6 * i + 3)) := fun K => by rw [show nI (6 * i) + 3 = nI (6 * i + 3) by simp only [qI_lit, qI_add]]; exact sx_ok (by omega) (by omega) K
  obtain ⟨e, v, A2, s1, he, hW2, hw, hX1, hR1, h70, hM⟩ := W_I1 (call_meet (x1 := xs (6 * i + 1)) (x2 := xs (6 * i + 2)) (x3 := xs (6 * i + 3)) hX hW (by omega)) hR
  obtain ⟨s2, hX2, hR2, hl⟩ := law_I (WX := f_W_meet (xs (6 * i + 1)) (xs (6 * i + 2)) (xs (6 * i + 3)) s) he (by decide) hw hX1 hR1 h70 hM
  obtain ⟨q, hq⟩ := ih s2 A2 hX2 hR2 hW2
  refine ⟨q, Eq.trans ?_ ((hl (fun s => lp_W_law xs L k n (nI (6 * (i + 1))) s)).trans hq)⟩
  simp only [cmpI, e6, sx1, sx2, sx3]
theorem law_breakOff (hX : RX s A) (hR : RM s A) (hW : WF A i) (hi : 6 * i + 6 ≤ L) (hL : L ≤ 3072) (ih : LpOk xs L k (i + 1) n) : ∃ q, (mm_sx xs L (nI (6 * i) + 1) fun a1 => mm_sx xs L (nI (6 * i) + 2) fun a2 => mm_sx xs L (nI (6 * i) + 3) fun a3 => mm_cI (f_W_breakOff a1 a2 a3 s) fun v s1 => mm_sx xs L (nI (6 * i) + 1) fun b1 => mm_sx xs L (nI (6 * i) + 2) fun b2 => mm_sx xs L (nI (6 * i) + 3) fun b3 => mm_cI (f_M_breakOff b1 b2 b3 s1) fun w s2 => mm_cI (f_M_thrown s2) fun y s3 => if y = v then (if ¬ v = 0 then lp_W_law xs L k n (nI (6 * i) + 6) s3 else (mm_ldj s3 70 0 1 ((0 : Int32)) fun z => if (lg_cmp z w.toInt64) = 0 then lp_W_law xs L k n (nI (6 * i) + 6) s3 else mm_rz ((0 : Int32)) s3)) else mm_rz ((0 : Int32)) s3) = some (.inr (some (.int 1)), q) := by
  have e6 : nI (6 * i) + 6 = nI (6 * (i + 1)) := by simp only [qI_lit, qI_add]; congr 1
  have sx1 : ∀ K : Int32 → RR, mm_sx xs L (nI (6 * i) + 1) K = K (xs (6 * i + 1)) := fun K => by rw [show nI (6 * i) + 1 = nI (6 * i + 1) by simp only [qI_lit, qI_add]]; exact sx_ok (by omega) (by omega) K
  have sx2 : ∀ K : Int32 → RR, mm_sx xs L (nI (6 * i) + 2) K = K (xs (6 * i + 2)) := fun K => by rw [show nI (6 * i) + 2 = nI (6 * i + 2) by simp only [qI_lit, qI_add]]; exact sx_ok (by omega) (by omega) K
  have sx3 : ∀ K : Int32 → RR, mm_sx xs L (nI (6 * i) + 3) K = K (xs (6 * i + 3)) := fun K => by rw [show nI (6 * i) + 3 = nI (6 * i + 3) by simp only [qI_lit, qI_add]]; exact sx_ok (by omega) (by omega) K
  obtain ⟨e, v, A2, s1, he, hW2, hw, hX1, hR1, h70, hM⟩ := W_I1 (call_breakOff (x1 := xs (6 * i + 1)) (x2 := xs (6 * i + 2)) (x3 := xs (6 * i + 3)) hX hW (by omega)) hR
  obtain ⟨s2, hX2, hR2, hl⟩ := law_I (WX := f_W_breakOff (xs (6 * i + 1)) (xs (6 * i + 2)) (xs (6 * i + 3)) s) he (by decide) hw hX1 hR1 h70 hM
  obtain ⟨q, hq⟩ := ih s2 A2 hX2 hR2 hW2
  refine ⟨q, Eq.trans ?_ ((hl (fun s => lp_W_law xs L k n (nI (6 * (i + 1))) s)).trans hq)⟩
  simp only [cmpI, e6, sx1, sx2, sx3]
theorem law_reboot (hX : RX s A) (hR : RM s A) (hW : WF A i) (hi : 6 * i + 6 ≤ L) (hL : L ≤ 3072) (ih : LpOk xs L k (i + 1) n) : ∃ q, (mm_sx xs L (nI (6 * i) + 1) fun a1 => mm_cI (f_W_reboot a1 s) fun v s1 => mm_sx xs L (nI (6 * i) + 1) fun b1 => mm_cV (f_M_reboot b1 s1) fun s2 => mm_cI (f_M_thrown s2) fun y s3 => if y = v then lp_W_law xs L k n (nI (6 * i) + 6) s3 else mm_rz ((0 : Int32)) s3) = some (.inr (some (.int 1)), q) := by
  have e6 : nI (6 * i) + 6 = nI (6 * (i + 1)) := by simp only [qI_lit, qI_add]; congr 1
  have sx1 : ∀ K : Int32 → RR, mm_sx xs L (nI (6 * i) + 1) K = K (xs (6 * i + 1)) := fun K => by rw [show nI (6 * i) + 1 = nI (6 * i + 1) by simp only [qI_lit, qI_add]]; exact sx_ok (by omega) (by omega) K
  obtain ⟨A2, s2, hW2, hX2, hR2, hl⟩ := W_V (call_reboot (x1 := xs (6 * i + 1)) hX hW) hR
  obtain ⟨q, hq⟩ := ih s2 A2 hX2 hR2 hW2
  refine ⟨q, Eq.trans ?_ ((hl (fun s => lp_W_law xs L k n (nI (6 * (i + 1))) s)).trans hq)⟩
  simp only [e6, sx1]
  rfl
theorem law_spoil (hX : RX s A) (hR : RM s A) (hW : WF A i) (hi : 6 * i + 6 ≤ L) (hL : L ≤ 3072) (ih : LpOk xs L k (i + 1) n) : ∃ q, (mm_sx xs L (nI (6 * i) + 1) fun a1 => mm_sx xs L (nI (6 * i) + 2) fun a2 => mm_sx xs L (nI (6 * i) + 3) fun a3 => mm_sx xs L (nI (6 * i) + 4) fun a4 => mm_sx xs L (nI (6 * i) + 5) fun a5 => mm_cI (f_W_spoil a1 a2 a3 a4 a5 s) fun v s1 => mm_sx xs L (nI (6 * i) + 1) fun b1 => mm_sx xs L (nI (6 * i) + 2) fun b2 => mm_sx xs L (nI (6 * i) + 3) fun b3 => mm_sx xs L (nI (6 * i) + 4) fun b4 => mm_sx xs L (nI (6 * i) + 5) fun b5 => mm_cI (f_M_spoil b1 b2 b3 b4 b5 s1) fun w s2 => mm_cI (f_M_thrown s2) fun y s3 => if y = v then (if ¬ v = 0 then lp_W_law xs L k n (nI (6 * i) + 6) s3 else (mm_ldj s3 70 0 1 ((0 : Int32)) fun z => if (lg_cmp z w.toInt64) = 0 then lp_W_law xs L k n (nI (6 * i) + 6) s3 else mm_rz ((0 : Int32)) s3)) else mm_rz ((0 : Int32)) s3) = some (.inr (some (.int 1)), q) := by
  have e6 : nI (6 * i) + 6 = nI (6 * (i + 1)) := by simp only [qI_lit, qI_add]; congr 1
  have sx1 : ∀ K : Int32 → RR, mm_sx xs L (nI (6 * i) + 1) K = K (xs (6 * i + 1)) := fun K => by rw [show nI (6 * i) + 1 = nI (6 * i + 1) by simp only [qI_lit, qI_add]]; exact sx_ok (by omega) (by omega) K
  have sx2 : ∀ K : Int32 → RR, mm_sx xs L (nI (6 * i) + 2) K = K (xs (6 * i + 2)) := fun K => by rw [show nI (6 * i) + 2 = nI (6 * i + 2) by simp only [qI_lit, qI_add]]; exact sx_ok (by omega) (by omega) K
  have sx3 : ∀ K : Int32 → RR, mm_sx xs L (nI (6 * i) + 3) K = K (xs (6 * i + 3)) := fun K => by rw [show nI (6 * i) + 3 = nI (6 * i + 3) by simp only [qI_lit, qI_add]]; exact sx_ok (by omega) (by omega) K
  have sx4 : ∀ K : Int32 → RR, mm_sx xs L (nI (6 * i) + 4) K = K (xs (6 * i + 4)) := fun K => by rw [show nI (6 * i) + 4 = nI (6 * i + 4) by simp only [qI_lit, qI_add]]; exact sx_ok (by omega) (by omega) K
  have sx5 : ∀ K : Int32 → RR, mm_sx xs L (nI (6 * i) + 5) K = K (xs (6 * i + 5)) := fun K => by rw [show nI (6 * i) + 5 = nI (6 * i + 5) by simp only [qI_lit, qI_add]]; exact sx_ok (by omega) (by omega) K
  obtain ⟨e, v, A2, s1, he, hW2, hw, hX1, hR1, h70, hM⟩ := W_I2 (call_spoil (x1 := xs (6 * i + 1)) (x2 := xs (6 * i + 2)) (x3 := xs (6 * i + 3)) (x4 := xs (6 * i + 4)) (x5 := xs (6 * i + 5)) hX hW) hR (by decide)
  obtain ⟨s2, hX2, hR2, hl⟩ := law_I (WX := f_W_spoil (xs (6 * i + 1)) (xs (6 * i + 2)) (xs (6 * i + 3)) (xs (6 * i + 4)) (xs (6 * i + 5)) s) he (by decide) hw hX1 hR1 h70 hM
  obtain ⟨q, hq⟩ := ih s2 A2 hX2 hR2 hW2
  refine ⟨q, Eq.trans ?_ ((hl (fun s => lp_W_law xs L k n (nI (6 * (i + 1))) s)).trans hq)⟩
  simp only [cmpI, e6, sx1, sx2, sx3, sx4, sx5]
theorem law_box (hX : RX s A) (hR : RM s A) (hW : WF A i) (hi : 6 * i + 6 ≤ L) (hL : L ≤ 3072) (ih : LpOk xs L k (i + 1) n) : ∃ q, (mm_sx xs L (nI (6 * i) + 1) fun a1 => mm_sx xs L (nI (6 * i) + 2) fun a2 => mm_sx xs L (nI (6 * i) + 3) fun a3 => mm_cI (f_W_box a1 a2 a3 s) fun v s1 => mm_sx xs L (nI (6 * i) + 1) fun b1 => mm_sx xs L (nI (6 * i) + 2) fun b2 => mm_sx xs L (nI (6 * i) + 3) fun b3 => mm_cI (f_M_box b1 b2 b3 s1) fun w s2 => mm_cI (f_M_thrown s2) fun y s3 => if y = v then (if ¬ v = 0 then lp_W_law xs L k n (nI (6 * i) + 6) s3 else (mm_ldj s3 70 0 1 ((0 : Int32)) fun z => if (lg_cmp z w.toInt64) = 0 then lp_W_law xs L k n (nI (6 * i) + 6) s3 else mm_rz ((0 : Int32)) s3)) else mm_rz ((0 : Int32)) s3) = some (.inr (some (.int 1)), q) := by
  have e6 : nI (6 * i) + 6 = nI (6 * (i + 1)) := by simp only [qI_lit, qI_add]; congr 1
  have sx1 : ∀ K : Int32 → RR, mm_sx xs L (nI (6 * i) + 1) K = K (xs (6 * i + 1)) := fun K => by rw [show nI (6 * i) + 1 = nI (6 * i + 1) by simp only [qI_lit, qI_add]]; exact sx_ok (by omega) (by omega) K
  have sx2 : ∀ K : Int32 → RR, mm_sx xs L (nI (6 * i) + 2) K = K (xs (6 * i + 2)) := fun K => by rw [show nI (6 * i) + 2 = nI (6 * i + 2) by simp only [qI_lit, qI_add]]; exact sx_ok (by omega) (by omega) K
  have sx3 : ∀ K : Int32 → RR, mm_sx xs L (nI (6 * i) + 3) K = K (xs (6 * i + 3)) := fun K => by rw [show nI (6 * i) + 3 = nI (6 * i + 3) by simp only [qI_lit, qI_add]]; exact sx_ok (by omega) (by omega) K
  obtain ⟨e, v, A2, s1, he, hW2, hw, hX1, hR1, h70, hM⟩ := W_I1 (call_box (x1 := xs (6 * i + 1)) (x2 := xs (6 * i + 2)) (x3 := xs (6 * i + 3)) hX hW) hR
  obtain ⟨s2, hX2, hR2, hl⟩ := law_I (WX := f_W_box (xs (6 * i + 1)) (xs (6 * i + 2)) (xs (6 * i + 3)) s) he (by decide) hw hX1 hR1 h70 hM
  obtain ⟨q, hq⟩ := ih s2 A2 hX2 hR2 hW2
  refine ⟨q, Eq.trans ?_ ((hl (fun s => lp_W_law xs L k n (nI (6 * (i + 1))) s)).trans hq)⟩
  simp only [cmpI, e6, sx1, sx2, sx3]
theorem law_read (hX : RX s A) (hR : RM s A) (hW : WF A i) (hi : 6 * i + 6 ≤ L) (hL : L ≤ 3072) (ih : LpOk xs L k (i + 1) n) : ∃ q, (mm_sx xs L (nI (6 * i) + 1) fun a1 => mm_sx xs L (nI (6 * i) + 2) fun a2 => mm_sx xs L (nI (6 * i) + 3) fun a3 => mm_sx xs L (nI (6 * i) + 4) fun a4 => mm_cI (f_W_read a1 a2 a3 a4 s) fun v s1 => mm_sx xs L (nI (6 * i) + 1) fun b1 => mm_sx xs L (nI (6 * i) + 2) fun b2 => mm_sx xs L (nI (6 * i) + 3) fun b3 => mm_sx xs L (nI (6 * i) + 4) fun b4 => mm_cI (f_M_read b1 b2 b3 b4 s1) fun w s2 => mm_cI (f_M_thrown s2) fun y s3 => if y = v then (if ¬ v = 0 then lp_W_law xs L k n (nI (6 * i) + 6) s3 else (mm_ldj s3 70 0 1 ((0 : Int32)) fun z => if (lg_cmp z w.toInt64) = 0 then lp_W_law xs L k n (nI (6 * i) + 6) s3 else mm_rz ((0 : Int32)) s3)) else mm_rz ((0 : Int32)) s3) = some (.inr (some (.int 1)), q) := by
  have e6 : nI (6 * i) + 6 = nI (6 * (i + 1)) := by simp only [qI_lit, qI_add]; congr 1
  have sx1 : ∀ K : Int32 → RR, mm_sx xs L (nI (6 * i) + 1) K = K (xs (6 * i + 1)) := fun K => by rw [show nI (6 * i) + 1 = nI (6 * i + 1) by simp only [qI_lit, qI_add]]; exact sx_ok (by omega) (by omega) K
  have sx2 : ∀ K : Int32 → RR, mm_sx xs L (nI (6 * i) + 2) K = K (xs (6 * i + 2)) := fun K => by rw [show nI (6 * i) + 2 = nI (6 * i + 2) by simp only [qI_lit, qI_add]]; exact sx_ok (by omega) (by omega) K
  have sx3 : ∀ K : Int32 → RR, mm_sx xs L (nI (6 * i) + 3) K = K (xs (6 * i + 3)) := fun K => by rw [show nI (6 * i) + 3 = nI (6 * i + 3) by simp only [qI_lit, qI_add]]; exact sx_ok (by omega) (by omega) K
  have sx4 : ∀ K : Int32 → RR, mm_sx xs L (nI (6 * i) + 4) K = K (xs (6 * i + 4)) := fun K => by rw [show nI (6 * i) + 4 = nI (6 * i + 4) by simp only [qI_lit, qI_add]]; exact sx_ok (by omega) (by omega) K
  obtain ⟨e, v, A2, s1, he, hW2, hw, hX1, hR1, h70, hM⟩ := W_I2 (call_read (x1 := xs (6 * i + 1)) (x2 := xs (6 * i + 2)) (x3 := xs (6 * i + 3)) (x4 := xs (6 * i + 4)) hX hW) hR (by decide)
  obtain ⟨s2, hX2, hR2, hl⟩ := law_I (WX := f_W_read (xs (6 * i + 1)) (xs (6 * i + 2)) (xs (6 * i + 3)) (xs (6 * i + 4)) s) he (by decide) hw hX1 hR1 h70 hM
  obtain ⟨q, hq⟩ := ih s2 A2 hX2 hR2 hW2
  refine ⟨q, Eq.trans ?_ ((hl (fun s => lp_W_law xs L k n (nI (6 * (i + 1))) s)).trans hq)⟩
  simp only [cmpI, e6, sx1, sx2, sx3, sx4]
theorem law_remove (hX : RX s A) (hR : RM s A) (hW : WF A i) (hi : 6 * i + 6 ≤ L) (hL : L ≤ 3072) (ih : LpOk xs L k (i + 1) n) : ∃ q, (mm_sx xs L (nI (6 * i) + 1) fun a1 => mm_sx xs L (nI (6 * i) + 2) fun a2 => mm_sx xs L (nI (6 * i) + 3) fun a3 => mm_cI (f_W_remove a1 a2 a3 s) fun v s1 => mm_sx xs L (nI (6 * i) + 1) fun b1 => mm_sx xs L (nI (6 * i) + 2) fun b2 => mm_sx xs L (nI (6 * i) + 3) fun b3 => mm_cI (f_M_remove b1 b2 b3 s1) fun w s2 => mm_cI (f_M_thrown s2) fun y s3 => if y = v then (if ¬ v = 0 then lp_W_law xs L k n (nI (6 * i) + 6) s3 else (mm_ldj s3 70 0 1 ((0 : Int32)) fun z => if (lg_cmp z w.toInt64) = 0 then lp_W_law xs L k n (nI (6 * i) + 6) s3 else mm_rz ((0 : Int32)) s3)) else mm_rz ((0 : Int32)) s3) = some (.inr (some (.int 1)), q) := by
  have e6 : nI (6 * i) + 6 = nI (6 * (i + 1)) := by simp only [qI_lit, qI_add]; congr 1
  have sx1 : ∀ K : Int32 → RR, mm_sx xs L (nI (6 * i) + 1) K = K (xs (6 * i + 1)) := fun K => by rw [show nI (6 * i) + 1 = nI (6 * i + 1) by simp only [qI_lit, qI_add]]; exact sx_ok (by omega) (by omega) K
  have sx2 : ∀ K : Int32 → RR, mm_sx xs L (nI (6 * i) + 2) K = K (xs (6 * i + 2)) := fun K => by rw [show nI (6 * i) + 2 = nI (6 * i + 2) by simp only [qI_lit, qI_add]]; exact sx_ok (by omega) (by omega) K
  have sx3 : ∀ K : Int32 → RR, mm_sx xs L (nI (6 * i) + 3) K = K (xs (6 * i + 3)) := fun K => by rw [show nI (6 * i) + 3 = nI (6 * i + 3) by simp only [qI_lit, qI_add]]; exact sx_ok (by omega) (by omega) K
  obtain ⟨e, v, A2, s1, he, hW2, hw, hX1, hR1, h70, hM⟩ := W_I2 (call_remove (x1 := xs (6 * i + 1)) (x2 := xs (6 * i + 2)) (x3 := xs (6 * i + 3)) hX hW) hR (by decide)
  obtain ⟨s2, hX2, hR2, hl⟩ := law_I (WX := f_W_remove (xs (6 * i + 1)) (xs (6 * i + 2)) (xs (6 * i + 3)) s) he (by decide) hw hX1 hR1 h70 hM
  obtain ⟨q, hq⟩ := ih s2 A2 hX2 hR2 hW2
  refine ⟨q, Eq.trans ?_ ((hl (fun s => lp_W_law xs L k n (nI (6 * (i + 1))) s)).trans hq)⟩
  simp only [cmpI, e6, sx1, sx2, sx3]
theorem law_status (hX : RX s A) (hR : RM s A) (hW : WF A i) (hi : 6 * i + 6 ≤ L) (hL : L ≤ 3072) (ih : LpOk xs L k (i + 1) n) : ∃ q, (mm_sx xs L (nI (6 * i) + 1) fun a1 => mm_cI (f_W_status a1 s) fun v s1 => mm_sx xs L (nI (6 * i) + 1) fun b1 => mm_cI (f_M_status b1 s1) fun w s2 => mm_cI (f_M_thrown s2) fun y s3 => if y = v then (if ¬ v = 0 then lp_W_law xs L k n (nI (6 * i) + 6) s3 else (mm_ldj s3 70 0 1 ((0 : Int32)) fun z => if (lg_cmp z w.toInt64) = 0 then lp_W_law xs L k n (nI (6 * i) + 6) s3 else mm_rz ((0 : Int32)) s3)) else mm_rz ((0 : Int32)) s3) = some (.inr (some (.int 1)), q) := by
  have e6 : nI (6 * i) + 6 = nI (6 * (i + 1)) := by simp only [qI_lit, qI_add]; congr 1
  have sx1 : ∀ K : Int32 → RR, mm_sx xs L (nI (6 * i) + 1) K = K (xs (6 * i + 1)) := fun K => by rw [show nI (6 * i) + 1 = nI (6 * i + 1) by simp only [qI_lit, qI_add]]; exact sx_ok (by omega) (by omega) K
  obtain ⟨e, v, A2, s1, he, hW2, hw, hX1, hR1, h70, hM⟩ := W_I1 (call_status (x1 := xs (6 * i + 1)) hX hW) hR
  obtain ⟨s2, hX2, hR2, hl⟩ := law_I (WX := f_W_status (xs (6 * i + 1)) s) he (by decide) hw hX1 hR1 h70 hM
  obtain ⟨q, hq⟩ := ih s2 A2 hX2 hR2 hW2
  refine ⟨q, Eq.trans ?_ ((hl (fun s => lp_W_law xs L k n (nI (6 * (i + 1))) s)).trans hq)⟩
  simp only [cmpI, e6, sx1]
theorem law_custodians (hX : RX s A) (hR : RM s A) (hW : WF A i) (hi : 6 * i + 6 ≤ L) (hL : L ≤ 3072) (ih : LpOk xs L k (i + 1) n) : ∃ q, (mm_sx xs L (nI (6 * i) + 1) fun a1 => mm_cI (f_W_custodians a1 s) fun v s1 => mm_sx xs L (nI (6 * i) + 1) fun b1 => mm_cI (f_M_custodians b1 s1) fun w s2 => mm_cI (f_M_thrown s2) fun y s3 => if y = v then (if ¬ v = 0 then lp_W_law xs L k n (nI (6 * i) + 6) s3 else (mm_ldj s3 70 0 1 ((0 : Int32)) fun z => if (lg_cmp z w.toInt64) = 0 then lp_W_law xs L k n (nI (6 * i) + 6) s3 else mm_rz ((0 : Int32)) s3)) else mm_rz ((0 : Int32)) s3) = some (.inr (some (.int 1)), q) := by
  have e6 : nI (6 * i) + 6 = nI (6 * (i + 1)) := by simp only [qI_lit, qI_add]; congr 1
  have sx1 : ∀ K : Int32 → RR, mm_sx xs L (nI (6 * i) + 1) K = K (xs (6 * i + 1)) := fun K => by rw [show nI (6 * i) + 1 = nI (6 * i + 1) by simp only [qI_lit, qI_add]]; exact sx_ok (by omega) (by omega) K
  obtain ⟨e, v, A2, s1, he, hW2, hw, hX1, hR1, h70, hM⟩ := W_I1 (call_custodians (x1 := xs (6 * i + 1)) hX hW) hR
  obtain ⟨s2, hX2, hR2, hl⟩ := law_I (WX := f_W_custodians (xs (6 * i + 1)) s) he (by decide) hw hX1 hR1 h70 hM
  obtain ⟨q, hq⟩ := ih s2 A2 hX2 hR2 hW2
  refine ⟨q, Eq.trans ?_ ((hl (fun s => lp_W_law xs L k n (nI (6 * (i + 1))) s)).trans hq)⟩
  simp only [cmpI, e6, sx1]
theorem law_promise (hX : RX s A) (hR : RM s A) (hW : WF A i) (hi : 6 * i + 6 ≤ L) (hL : L ≤ 3072) (ih : LpOk xs L k (i + 1) n) : ∃ q, (mm_sx xs L (nI (6 * i) + 1) fun a1 => mm_cI (f_W_promise a1 s) fun v s1 => mm_sx xs L (nI (6 * i) + 1) fun b1 => mm_cI (f_M_promise b1 s1) fun w s2 => mm_cI (f_M_thrown s2) fun y s3 => if y = v then (if ¬ v = 0 then lp_W_law xs L k n (nI (6 * i) + 6) s3 else (mm_ldj s3 70 0 1 ((0 : Int32)) fun z => if (lg_cmp z w.toInt64) = 0 then lp_W_law xs L k n (nI (6 * i) + 6) s3 else mm_rz ((0 : Int32)) s3)) else mm_rz ((0 : Int32)) s3) = some (.inr (some (.int 1)), q) := by
  have e6 : nI (6 * i) + 6 = nI (6 * (i + 1)) := by simp only [qI_lit, qI_add]; congr 1
  have sx1 : ∀ K : Int32 → RR, mm_sx xs L (nI (6 * i) + 1) K = K (xs (6 * i + 1)) := fun K => by rw [show nI (6 * i) + 1 = nI (6 * i + 1) by simp only [qI_lit, qI_add]]; exact sx_ok (by omega) (by omega) K
  obtain ⟨e, v, A2, s1, he, hW2, hw, hX1, hR1, h70, hM⟩ := W_I1 (call_promise (x1 := xs (6 * i + 1)) hX hW) hR
  obtain ⟨s2, hX2, hR2, hl⟩ := law_I (WX := f_W_promise (xs (6 * i + 1)) s) he (by decide) hw hX1 hR1 h70 hM
  obtain ⟨q, hq⟩ := ih s2 A2 hX2 hR2 hW2
  refine ⟨q, Eq.trans ?_ ((hl (fun s => lp_W_law xs L k n (nI (6 * (i + 1))) s)).trans hq)⟩
  simp only [cmpI, e6, sx1]
theorem law_best (hX : RX s A) (hR : RM s A) (hW : WF A i) (hi : 6 * i + 6 ≤ L) (hL : L ≤ 3072) (ih : LpOk xs L k (i + 1) n) : ∃ q, (mm_sx xs L (nI (6 * i) + 1) fun a1 => mm_sx xs L (nI (6 * i) + 2) fun a2 => mm_sx xs L (nI (6 * i) + 3) fun a3 => mm_cI (f_W_best a1 a2 a3 s) fun v s1 => mm_sx xs L (nI (6 * i) + 1) fun b1 => mm_sx xs L (nI (6 * i) + 2) fun b2 => mm_sx xs L (nI (6 * i) + 3) fun b3 => mm_cI (f_M_best b1 b2 b3 s1) fun w s2 => mm_cI (f_M_thrown s2) fun y s3 => if y = v then (if ¬ v = 0 then lp_W_law xs L k n (nI (6 * i) + 6) s3 else (mm_ldj s3 70 0 1 ((0 : Int32)) fun z => if (lg_cmp z w.toInt64) = 0 then lp_W_law xs L k n (nI (6 * i) + 6) s3 else mm_rz ((0 : Int32)) s3)) else mm_rz ((0 : Int32)) s3) = some (.inr (some (.int 1)), q) := by
  have e6 : nI (6 * i) + 6 = nI (6 * (i + 1)) := by simp only [qI_lit, qI_add]; congr 1
  have sx1 : ∀ K : Int32 → RR, mm_sx xs L (nI (6 * i) + 1) K = K (xs (6 * i + 1)) := fun K => by rw [show nI (6 * i) + 1 = nI (6 * i + 1) by simp only [qI_lit, qI_add]]; exact sx_ok (by omega) (by omega) K
  have sx2 : ∀ K : Int32 → RR, mm_sx xs L (nI (6 * i) + 2) K = K (xs (6 * i + 2)) := fun K => by rw [show nI (6 * i) + 2 = nI (6 * i + 2) by simp only [qI_lit, qI_add]]; exact sx_ok (by omega) (by omega) K
  have sx3 : ∀ K : Int32 → RR, mm_sx xs L (nI (6 * i) + 3) K = K (xs (6 * i + 3)) := fun K => by rw [show nI (6 * i) + 3 = nI (6 * i + 3) by simp only [qI_lit, qI_add]]; exact sx_ok (by omega) (by omega) K
  obtain ⟨e, v, A2, s1, he, hW2, hw, hX1, hR1, h70, hM⟩ := W_I1 (call_best (x1 := xs (6 * i + 1)) (x2 := xs (6 * i + 2)) (x3 := xs (6 * i + 3)) hX hW) hR
  obtain ⟨s2, hX2, hR2, hl⟩ := law_I (WX := f_W_best (xs (6 * i + 1)) (xs (6 * i + 2)) (xs (6 * i + 3)) s) he (by decide) hw hX1 hR1 h70 hM
  obtain ⟨q, hq⟩ := ih s2 A2 hX2 hR2 hW2
  refine ⟨q, Eq.trans ?_ ((hl (fun s => lp_W_law xs L k n (nI (6 * (i + 1))) s)).trans hq)⟩
  simp only [cmpI, e6, sx1, sx2, sx3]
theorem law_store (hX : RX s A) (hR : RM s A) (hW : WF A i) (hi : 6 * i + 6 ≤ L) (hL : L ≤ 3072) (ih : LpOk xs L k (i + 1) n) : ∃ q, (mm_sx xs L (nI (6 * i) + 1) fun a1 => mm_sx xs L (nI (6 * i) + 2) fun a2 => mm_cI (f_W_store a1 a2 s) fun v s1 => mm_sx xs L (nI (6 * i) + 1) fun b1 => mm_sx xs L (nI (6 * i) + 2) fun b2 => mm_cI (f_M_store b1 b2 s1) fun w s2 => mm_cI (f_M_thrown s2) fun y s3 => if y = v then (if ¬ v = 0 then lp_W_law xs L k n (nI (6 * i) + 6) s3 else (mm_ldj s3 70 0 1 ((0 : Int32)) fun z => if (lg_cmp z w.toInt64) = 0 then lp_W_law xs L k n (nI (6 * i) + 6) s3 else mm_rz ((0 : Int32)) s3)) else mm_rz ((0 : Int32)) s3) = some (.inr (some (.int 1)), q) := by
  have e6 : nI (6 * i) + 6 = nI (6 * (i + 1)) := by simp only [qI_lit, qI_add]; congr 1
  have sx1 : ∀ K : Int32 → RR, mm_sx xs L (nI (6 * i) + 1) K = K (xs (6 * i + 1)) := fun K => by rw [show nI (6 * i) + 1 = nI (6 * i + 1) by simp only [qI_lit, qI_add]]; exact sx_ok (by omega) (by omega) K
  have sx2 : ∀ K : Int32 → RR, mm_sx xs L (nI (6 * i) + 2) K = K (xs (6 * i + 2)) := fun K => by rw [show nI (6 * i) + 2 = nI (6 * i + 2) by simp only [qI_lit, qI_add]]; exact sx_ok (by omega) (by omega) K
  obtain ⟨e, v, A2, s1, he, hW2, hw, hX1, hR1, h70, hM⟩ := W_I1 (call_store (x1 := xs (6 * i + 1)) (x2 := xs (6 * i + 2)) hX hW) hR
  obtain ⟨s2, hX2, hR2, hl⟩ := law_I (WX := f_W_store (xs (6 * i + 1)) (xs (6 * i + 2)) s) he (by decide) hw hX1 hR1 h70 hM
  obtain ⟨q, hq⟩ := ih s2 A2 hX2 hR2 hW2
  refine ⟨q, Eq.trans ?_ ((hl (fun s => lp_W_law xs L k n (nI (6 * (i + 1))) s)).trans hq)⟩
  simp only [cmpI, e6, sx1, sx2]
end

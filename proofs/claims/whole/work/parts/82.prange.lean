-- whether a number lies within bounds
def inR (lo hi : Nat) (x : Int32) : Bool := decide (nI lo ≤ x ∧ x < nI hi)
theorem inR_get {lo hi : Nat} {x : Int32} (hl : lo < 2147483648) (hh : hi < 2147483648) (h : inR lo hi x = true) : ∃ a, lo ≤ a ∧ a < hi ∧ x = nI a := by
  obtain ⟨h1, h2⟩ := of_decide_eq_true h
  rcases qI_cases x with h3 | ⟨a, h3, rfl⟩
  · rw [Int32.lt_iff_toInt_lt, qI_int (by omega)] at h3
    rw [Int32.le_iff_toInt_le, qI_int (by omega)] at h1
    omega
  · rw [qI_le (by omega) (by omega)] at h1
    rw [qI_lt (by omega) (by omega)] at h2
    exact ⟨a, h1, h2, rfl⟩
theorem inR_nI {lo hi a : Nat} (hl : lo < 2147483648) (hh : hi < 2147483648) (ha : a < 2147483648) : inR lo hi (nI a) = decide (lo ≤ a ∧ a < hi) := by
  unfold inR
  exact decide_eq_decide.mpr (by rw [qI_le hl ha, qI_lt ha hh])
theorem nlt_le {x y : Int32} : ¬ x < y ↔ y ≤ x := by rw [Int32.lt_iff_toInt_lt, Int32.le_iff_toInt_le]; omega
theorem nle_lt {x y : Int32} : ¬ x ≤ y ↔ y < x := by rw [Int32.lt_iff_toInt_lt, Int32.le_iff_toInt_le]; omega
theorem lt_succ_le {x : Int32} {a : Nat} (h : a + 1 < 2147483648) : x < nI (a + 1) ↔ x ≤ nI a := by
  rw [Int32.lt_iff_toInt_lt, Int32.le_iff_toInt_le, qI_int h, qI_int (by omega)]; omega
section
variable {s : Mem} {x : Int32}
theorem X_isWithin {b : Nat} : f_X_isWithin x (nI b) s = mm_ri (bI (inR 0 b x)) s := by
  unfold f_X_isWithin inR
  by_cases h1 : x < 0
  · rw [if_pos h1, decide_eq_false (fun h => nlt_le.mpr h.1 h1)]; rfl
  · rw [if_neg h1]
    by_cases h2 : nI b ≤ x
    · rw [if_pos h2, decide_eq_false (fun h => nle_lt.mpr h.2 h2)]; rfl
    · rw [if_neg h2, decide_eq_true ⟨nlt_le.mp h1, nle_lt.mp h2⟩]; rfl
theorem X_isBus : f_X_isBus x s = mm_ri (bI (inR 8 12 x)) s := by
  unfold f_X_isBus inR
  by_cases h1 : x < 8
  · rw [if_pos h1, decide_eq_false (fun h => nlt_le.mpr h.1 h1)]; rfl
  · rw [if_neg h1]
    by_cases h2 : 12 ≤ x
    · rw [if_pos h2, decide_eq_false (fun h => nle_lt.mpr h.2 h2)]; rfl
    · rw [if_neg h2, decide_eq_true ⟨nlt_le.mp h1, nle_lt.mp h2⟩]; rfl
theorem X_isKiosk : f_X_isKiosk x s = mm_ri (bI (inR 0 8 x)) s := by
  unfold f_X_isKiosk; rw [show (8 : Int32) = nI 8 from rfl, X_isWithin, cI_ok, rz_b]
theorem X_isStore : f_X_isStore x s = mm_ri (bI (inR 0 12 x)) s := by
  unfold f_X_isStore; rw [show (12 : Int32) = nI 12 from rfl, X_isWithin, cI_ok, rz_b]
theorem X_isBox {y : Int32} : f_X_isBox x y s = mm_ri (bI (inR 0 8 x && inR 0 3 y)) s := by
  unfold f_X_isBox
  rw [X_isKiosk, cI_ok, show (3 : Int32) = nI 3 from rfl, X_isWithin, cI_ok]
  cases inR 0 8 x <;> cases inR 0 3 y <;> rfl
theorem X_demand {b : Bool} : f_X_demand (bI b) s = if b then mm_rv s else mm_th 1 s := by cases b <;> rfl
theorem X_demandIndex {b : Nat} : f_X_demandIndex x (nI b) s = if inR 0 b x then mm_rv s else mm_th 3 s := by
  unfold f_X_demandIndex
  rw [X_isWithin, cI_ok]
  cases inR 0 b x <;> rfl
theorem M_upTo {b : Nat} (hb : b + 1 < 2147483648) : f_M_upTo x (nI b) s = mm_ri (bI (inR 0 (b + 1) x)) s := by
  unfold f_M_upTo inR
  by_cases h1 : x < 0
  · rw [if_pos h1, decide_eq_false (fun h => nlt_le.mpr h.1 h1)]; rfl
  · rw [if_neg h1]
    by_cases h2 : nI b < x
    · rw [if_pos h2, decide_eq_false (fun h => nle_lt.mpr h2 ((lt_succ_le hb).mp h.2))]; rfl
    · rw [if_neg h2, decide_eq_true ⟨nlt_le.mp h1, (lt_succ_le hb).mpr (nlt_le.mp h2)⟩]; rfl
theorem M_isKiosk : f_M_isKiosk x s = mm_ri (bI (inR 0 8 x)) s := by
  unfold f_M_isKiosk; rw [show (7 : Int32) = nI 7 from rfl, M_upTo (by decide), cI_ok, rz_b]
theorem M_isBus : f_M_isBus x s = mm_ri (bI (inR 8 12 x)) s := by
  unfold f_M_isBus inR
  by_cases h1 : x < 8
  · rw [if_pos h1, decide_eq_false (fun h => nlt_le.mpr h.1 h1)]; rfl
  · rw [if_neg h1]
    by_cases h2 : 11 < x
    · rw [if_pos h2, decide_eq_false (fun h => nle_lt.mpr h2 ((lt_succ_le (a := 11) (by decide)).mp h.2))]; rfl
    · rw [if_neg h2, decide_eq_true ⟨nlt_le.mp h1, (lt_succ_le (a := 11) (by decide)).mpr (nlt_le.mp h2)⟩]; rfl
end

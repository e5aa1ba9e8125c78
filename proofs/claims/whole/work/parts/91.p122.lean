theorem law_loop (xs : Nat → Int32) (L : Nat) (hL : L ≤ 3072) : ∀ n i, L + 6 ≤ 6 * (i + n) → (6 * i ≤ L ∨ i = 0) → LpOk xs L (fun s => mm_rz 1 s) i n := by
  intro n
  induction n with
  | zero => intro i h1 h2; omega
  | succ n ih =>
    intro i h1 h2 s A hX hR hW
    have e6 : nI (6 * i) + 6 = nI (6 * (i + 1)) := by simp only [qI_lit, qI_add]; congr 1
    unfold lp_W_law
    by_cases he : L < 6 * i + 6
    · rw [if_pos ((sub6 (by omega) (by omega)).mpr he)]
      exact ⟨s, rfl⟩
    · have hi : 6 * i + 6 ≤ L := by omega
      have ih' : LpOk xs L (fun s => mm_rz 1 s) (i + 1) n := ih (i + 1) (by omega) (.inl (by omega))
      rw [if_neg (fun h => he ((sub6 (by omega) (by omega)).mp h)), sx_ok (by omega) (by omega)]
      by_cases h0 : xs (6 * i) &&& 31 = 0
      · rw [if_pos h0]; exact law_stop hX hR hW hi hL ih'
      rw [if_neg h0]
      by_cases h1 : xs (6 * i) &&& 31 = 1
      · rw [if_pos h1]; exact law_cancel hX hR hW hi hL ih'
      rw [if_neg h1]
      by_cases h2 : xs (6 * i) &&& 31 = 2
      · rw [if_pos h2]; exact law_publish hX hR hW hi hL ih'
      rw [if_neg h2]
      by_cases h3 : xs (6 * i) &&& 31 = 3
      · rw [if_pos h3]; exact law_household hX hR hW hi hL ih'
      rw [if_neg h3]
      by_cases h4 : xs (6 * i) &&& 31 = 4
      · rw [if_pos h4]; exact law_group hX hR hW hi hL ih'
      rw [if_neg h4]
      by_cases h5 : xs (6 * i) &&& 31 = 5
      · rw [if_pos h5]; exact law_key hX hR hW hi hL ih'
      rw [if_neg h5]
      by_cases h6 : xs (6 * i) &&& 31 = 6
      · rw [if_pos h6]; exact law_post hX hR hW hi hL ih'
      rw [if_neg h6]
      by_cases h7 : xs (6 * i) &&& 31 = 7
      · rw [if_pos h7]; exact law_minute hX hR hW hi hL ih'
      rw [if_neg h7]
      by_cases h8 : xs (6 * i) &&& 31 = 8
      · rw [if_pos h8]; exact law_meet hX hR hW hi hL ih'
      rw [if_neg h8]
      by_cases h9 : xs (6 * i) &&& 31 = 9
      · rw [if_pos h9]; exact law_breakOff hX hR hW hi hL ih'
      rw [if_neg h9]
      by_cases h10 : xs (6 * i) &&& 31 = 10
      · rw [if_pos h10]; exact law_reboot hX hR hW hi hL ih'
      rw [if_neg h10]
      by_cases h11 : xs (6 * i) &&& 31 = 11
      · rw [if_pos h11]; exact law_spoil hX hR hW hi hL ih'
      rw [if_neg h11]
      by_cases h12 : xs (6 * i) &&& 31 = 12
      · rw [if_pos h12]; exact law_box hX hR hW hi hL ih'
      rw [if_neg h12]
      by_cases h13 : xs (6 * i) &&& 31 = 13
      · rw [if_pos h13]; exact law_read hX hR hW hi hL ih'
      rw [if_neg h13]
      by_cases h14 : xs (6 * i) &&& 31 = 14
      · rw [if_pos h14]; exact law_remove hX hR hW hi hL ih'
      rw [if_neg h14]
      by_cases h15 : xs (6 * i) &&& 31 = 15
      · rw [if_pos h15]; exact law_status hX hR hW hi hL ih'
      rw [if_neg h15]
      by_cases h16 : xs (6 * i) &&& 31 = 16
      · rw [if_pos h16]; exact law_custodians hX hR hW hi hL ih'
      rw [if_neg h16]
      by_cases h17 : xs (6 * i) &&& 31 = 17
      · rw [if_pos h17]; exact law_promise hX hR hW hi hL ih'
      rw [if_neg h17]
      by_cases h18 : xs (6 * i) &&& 31 = 18
      · rw [if_pos h18]; exact law_best hX hR hW hi hL ih'
      rw [if_neg h18]
      by_cases h19 : xs (6 * i) &&& 31 = 19
      · rw [if_pos h19]; exact law_store hX hR hW hi hL ih'
      rw [if_neg h19]
      rw [e6]
      exact ih' s A hX hR hW.mono

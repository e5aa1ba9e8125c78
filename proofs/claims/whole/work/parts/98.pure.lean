theorem whole_pure (xs : Nat → Int32) (L : Nat) (hL : L ≤ 3072) : ∃ s1 q, f_W_pre mm_rv z0 = some (.inr none, s1) ∧ Fl s1 ∧ lp_W_law xs L (fun s => mm_rz 1 s) 600 0 s1 = some (.inr (some (.int 1)), q) := by
  obtain ⟨s1, e1, g1⟩ := pre_ok
  obtain ⟨q, hq⟩ := law_loop xs L hL 600 0 (by omega) (.inr rfl) s1 A0 (RX_0 g1) (RM_0 g1) WF_0
  refine ⟨s1, q, e1, ⟨g1.cn, fun F hF i hi k hk => ?_⟩, hq⟩
  rw [g1.w F i k (by omega)]; exact vzf F hF i hi k hk

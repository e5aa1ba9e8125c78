section
variable {T : List Hlt}
theorem M_cut {s : Mem} (hT : TabM s 7 T) (hlen : T.length ≤ 24) {a : Nat} (ha : a < T.length) : ∃ s', f_M_copyStop (nI (168 + (T.length - 1))) (nI (168 + a)) (mm_wI s 34 0 7 (nI (T.length - 1))) = mm_rv s' ∧ TabM s' 7 (cutT T a) ∧ (∀ t, t < 7 → ∀ U, U.length ≤ 24 → TabM s t U → TabM s' t U) ∧ FrD s s' := by
  have hl : T[T.length - 1]? = some T[T.length - 1] := List.getElem?_eq_getElem (by omega)
  have hr : rowM (mm_wI s 34 0 7 (nI (T.length - 1))) (168 + (T.length - 1)) T[T.length - 1] := hT.row' hl
  obtain ⟨s1, e1, w1, k1, o1, f1⟩ := M_copyStop (b := 168 + a) (by omega) (by omega) hr
  refine ⟨s1, e1, ⟨?_, fun j x hx => ?_⟩, fun t ht U hU hTU => ⟨?_, fun j x hx => ?_⟩, (FrD.wI (by omega)).tr f1⟩
  · rw [o1, wI_y, cutT_len ha]
  · have hj := (List.getElem?_eq_some_iff.mp hx).1
    rw [cutT_len ha] at hj
    rw [cutT_at ha hj] at hx
    by_cases e : j = a
    · rw [if_pos e, hl] at hx
      cases hx
      rw [e]; exact w1
    · rw [if_neg e] at hx
      have hr2 : rowM s (168 + j) x := hT.row' hx
      have k2 := k1 (168 + j) (by omega)
      exact ⟨(k2 31).trans ((wI_ne (by decide) : (mm_wI s 34 0 7 (nI (T.length - 1))).1 31 = s.1 31) ▸ hr2.1), (k2 32).trans ((wI_ne (by decide) : (mm_wI s 34 0 7 (nI (T.length - 1))).1 32 = s.1 32) ▸ hr2.2.1), (k2 33).trans ((wI_ne (by decide) : (mm_wI s 34 0 7 (nI (T.length - 1))).1 33 = s.1 33) ▸ hr2.2.2)⟩
  · rw [o1, wI_n (by omega)]; exact hTU.cnt
  · have hj := (List.getElem?_eq_some_iff.mp hx).1
    have hr2 := hTU.row j x hx
    have k2 := k1 (24 * t + j) (by omega)
    rw [k2 31, k2 32, k2 33, wI_ne (by decide), wI_ne (by decide), wI_ne (by decide)]
    exact hr2
end

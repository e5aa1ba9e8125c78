section
variable {T : List Hlt}
theorem TabM.row' {s : Mem} {t : Nat} (h : TabM s t T) {j : Nat} {x : Hlt} (hx : T[j]? = some x) : rowM s (24 * t + j) x := h.row j x hx
-- a stop more, at the end
theorem TabM_add {s : Mem} (hT : TabM s 7 T) {x : Hlt} : TabM (mm_wI (mm_wI (mm_wI (mm_wI s 31 0 (168 + T.length) (nI x.1)) 32 0 (168 + T.length) (nI x.2.1)) 33 0 (168 + T.length) (nI x.2.2)) 34 0 7 (nI (T.length + 1))) 7 (T ++ [x]) := by
  refine ⟨?_, fun j y hy => ?_⟩
  · rw [wI_y, List.length_append]; rfl
  · by_cases e : j = T.length
    · subst e
      simp at hy
      subst hy
      refine ⟨?_, ?_, ?_⟩
      · rw [wI_ne (by decide), wI_ne (by decide), wI_ne (by decide), wI_y]
      · rw [wI_ne (by decide), wI_ne (by decide), wI_y]
      · rw [wI_ne (by decide), wI_y]
    · have hj : j < T.length := by
        have := (List.getElem?_eq_some_iff.mp hy).1
        simp at this; omega
      rw [List.getElem?_append_left hj] at hy
      obtain ⟨r1, r2, r3⟩ := hT.row j y hy
      refine ⟨?_, ?_, ?_⟩
      · rw [wI_ne (by decide), wI_ne (by decide), wI_ne (by decide), wI_n (by omega)]; exact r1
      · rw [wI_ne (by decide), wI_ne (by decide), wI_n (by omega), wI_ne (by decide)]; exact r2
      · rw [wI_ne (by decide), wI_n (by omega), wI_ne (by decide), wI_ne (by decide)]; exact r3
-- a stop less: the last one takes its place
def cutT (T : List Hlt) (a : Nat) : List Hlt := (T.set a (T.getLastD (0, 0, 0))).dropLast
theorem cutT_len {a : Nat} (ha : a < T.length) : (cutT T a).length = T.length - 1 := by unfold cutT; simp
theorem cutT_at {a j : Nat} (ha : a < T.length) (hj : j < T.length - 1) : (cutT T a)[j]? = if j = a then T[T.length - 1]? else T[j]? := by
  unfold cutT
  rw [List.getElem?_dropLast, if_pos (by simp; omega), List.getElem?_set]
  by_cases e : a = j
  · subst e
    rw [if_pos rfl, if_pos ha, if_pos rfl, List.getLastD_eq_getLast?, List.getLast?_eq_getElem?, List.getElem?_eq_getElem (by omega)]
    rfl
  · rw [if_neg e, if_neg (Ne.symm e)]
theorem cutT_perm {a : Nat} (ha : a < T.length) : (T[a] :: cutT T a).Perm T := by
  have hne : T ≠ [] := fun h => by rw [h] at ha; exact absurd ha (Nat.not_lt_zero _)
  obtain ⟨D, y, rfl⟩ : ∃ D y, T = D ++ [y] := ⟨T.dropLast, T.getLast hne, (List.dropLast_concat_getLast hne).symm⟩
  have hlast : (D ++ [y]).getLastD (0, 0, 0) = y := by simp
  unfold cutT
  rw [hlast]
  by_cases c : a < D.length
  · have e1 : (D ++ [y]).set a y = D.set a y ++ [y] := by rw [List.set_append_left _ _ c]
    rw [e1, List.dropLast_concat, List.getElem_append_left c]
    have e2 : D.set a y = D.take a ++ y :: D.drop (a + 1) := List.set_eq_take_append_cons_drop.trans (if_pos c)
    have e3 : D = D.take a ++ D[a] :: D.drop (a + 1) := by rw [← List.drop_eq_getElem_cons c, List.take_append_drop]
    rw [e2]
    refine ((List.perm_middle (a := y) (l₁ := D.take a) (l₂ := D.drop (a + 1))).cons D[a]).trans ?_
    refine (List.Perm.swap y D[a] _).trans ?_
    have h4 : (D[a] :: (D.take a ++ D.drop (a + 1))).Perm D := by
      have := (List.perm_middle (a := D[a]) (l₁ := D.take a) (l₂ := D.drop (a + 1))).symm
      rw [← e3] at this
      exact this
    exact (h4.cons y).trans (List.perm_append_comm (l₁ := [y]) (l₂ := D))
  · have ea : a = D.length := by simp at ha; omega
    subst ea
    have e1 : (D ++ [y]).set D.length y = D ++ [y] := by simp
    rw [e1, List.dropLast_concat]
    have e2 : (D ++ [y])[D.length] = y := by simp
    rw [e2]
    exact List.perm_append_comm (l₁ := [y]) (l₂ := D)
end

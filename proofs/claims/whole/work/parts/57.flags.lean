-- where references lie
def rfP (F : Nat) : List Nat := match F with
  | 0 => [1, 2, 4, 5, 6, 8, 10, 11, 12, 13]
  | 1 => [0, 1, 2]
  | 5 => [0, 1, 2, 3, 4, 5, 6]
  | 6 => [0, 1, 2, 3, 4, 5, 6, 7, 8, 9, 10, 11]
  | 7 => [1, 2, 3, 4]
  | 12 => [0, 1, 2, 3, 4, 5, 6, 7]
  | 13 => [0, 1]
  | 14 => [0, 1, 2]
  | 16 => [0]
  | 18 => [0, 1, 2, 3, 4, 5, 6, 7, 8, 9, 10, 11, 12, 13, 14, 15]
  | 19 => [10]
  | 22 => [0, 1, 2]
  | 26 => [0]
  | 30 => [0, 1, 2, 3, 6, 8, 9, 10, 11, 12, 13, 14, 15, 16, 17, 18, 19, 20, 21, 22, 23, 24, 25, 26, 27, 28, 29, 32, 33, 34, 37]
  | _ => []
def Fl (q : Mem) : Prop := kn q = 247 ∧ ∀ F, F < 72 → ∀ i, i < cnt F → ∀ k ∈ rfP F, q.1 F i k ≠ 0
theorem bb_rf_ne {f : Int32} {a : Nat} (h : f ≠ 0) : bb_rf f a = .ref a := if_neg h
theorem arrV_to {cA : ClassId} {n : Nat} {f g : Nat → Value} (h : ∀ j, j < n → f j = g j) : arrV cA n f = arrV cA n g := by
  unfold arrV
  congr 1
  exact congrArg Array.ofFn (funext fun j => h j.1 j.2)
theorem arrV_rf {cA : ClassId} {n : Nat} {r : Nat → Int32} {g : Nat → Nat} (h : ∀ j, j < n → r j ≠ 0) : vp_cell cA (n, .inr (.inr (.inr (.inr (fun j => if r j = 0 then none else some (g j)))))) = vp_cell cA (n, .inr (.inr (.inr (.inr (fun j => some (g j)))))) := by
  rw [vp_cell_q, vp_cell_q]
  exact arrV_to fun j hj => by rw [if_neg (h j hj)]
set_option maxRecDepth 100000 in
theorem cb_ct {K : KK} {D : va_G} {q : Mem} {H : Heap} (a : Nat) (F i : Nat) (hi : i < cnt F) (h : ∀ k ∈ rfP F, q.1 F i k ≠ 0) (hA : va_at D vwCl (a, cb K q F i) H) : va_at D vwCl (a, ct K q F i) H := by
  match F, hi, h, hA with
  | 0, _, h, hA =>
    have e : cb K q 0 i = ct K q 0 i := by
      show cbR K 0 i _ _ = ctR K 0 i _ _
      unfold cbR ctR
      simp only [bb_rf_ne (h 1 (by decide)), bb_rf_ne (h 2 (by decide)), bb_rf_ne (h 4 (by decide)), bb_rf_ne (h 5 (by decide)), bb_rf_ne (h 6 (by decide)), bb_rf_ne (h 8 (by decide)), bb_rf_ne (h 10 (by decide)), bb_rf_ne (h 11 (by decide)), bb_rf_ne (h 12 (by decide)), bb_rf_ne (h 13 (by decide))]
    rw [e] at hA; exact hA
  | 1, _, h, hA =>
    have e : cb K q 1 i = ct K q 1 i := by
      show cbR K 1 i _ _ = ctR K 1 i _ _
      unfold cbR ctR
      simp only [bb_rf_ne (h 0 (by decide)), bb_rf_ne (h 1 (by decide)), bb_rf_ne (h 2 (by decide))]
    rw [e] at hA; exact hA
  | 2, _, _, hA => exact hA
  | 3, _, _, hA => exact hA
  | 4, _, _, hA => exact hA
  | 5, _, h, hA => exact (show H[a]? = _ from hA).trans (congrArg some (arrV_rf fun j hj => h j (List.mem_range.mpr hj)))
  | 6, _, h, hA => exact (show H[a]? = _ from hA).trans (congrArg some (arrV_rf fun j hj => h j (List.mem_range.mpr hj)))
  | 7, _, h, hA =>
    have e : cb K q 7 i = ct K q 7 i := by
      show cbR K 7 i _ _ = ctR K 7 i _ _
      unfold cbR ctR
      simp only [bb_rf_ne (h 1 (by decide)), bb_rf_ne (h 2 (by decide)), bb_rf_ne (h 3 (by decide)), bb_rf_ne (h 4 (by decide))]
    rw [e] at hA; exact hA
  | 8, _, _, hA => exact hA
  | 9, _, _, hA => exact hA
  | 10, _, _, hA => exact hA
  | 11, _, _, hA => exact hA
  | 12, _, h, hA => exact (show H[a]? = _ from hA).trans (congrArg some (arrV_rf fun j hj => h j (List.mem_range.mpr hj)))
  | 13, _, h, hA =>
    have e : cb K q 13 i = ct K q 13 i := by
      show cbR K 13 i _ _ = ctR K 13 i _ _
      unfold cbR ctR
      simp only [bb_rf_ne (h 0 (by decide)), bb_rf_ne (h 1 (by decide))]
    rw [e] at hA; exact hA
  | 14, _, h, hA => exact (show H[a]? = _ from hA).trans (congrArg some (arrV_rf fun j hj => h j (List.mem_range.mpr hj)))
  | 15, _, _, hA => exact hA
  | 16, _, h, hA =>
    have e : cb K q 16 i = ct K q 16 i := by
      show cbR K 16 i _ _ = ctR K 16 i _ _
      unfold cbR ctR
      simp only [bb_rf_ne (h 0 (by decide))]
    rw [e] at hA; exact hA
  | 17, _, _, hA => exact hA
  | 18, _, h, hA => exact (show H[a]? = _ from hA).trans (congrArg some (arrV_rf fun j hj => h j (List.mem_range.mpr hj)))
  | 19, _, h, hA =>
    have e : cb K q 19 i = ct K q 19 i := by
      show cbR K 19 i _ _ = ctR K 19 i _ _
      unfold cbR ctR
      simp only [bb_rf_ne (h 10 (by decide))]
    rw [e] at hA; exact hA
  | 20, _, _, hA => exact hA
  | 21, _, _, hA => exact hA
  | 22, _, h, hA =>
    have e : cb K q 22 i = ct K q 22 i := by
      show cbR K 22 i _ _ = ctR K 22 i _ _
      unfold cbR ctR
      simp only [bb_rf_ne (h 0 (by decide)), bb_rf_ne (h 1 (by decide)), bb_rf_ne (h 2 (by decide))]
    rw [e] at hA; exact hA
  | 23, _, _, hA => exact hA
  | 24, _, _, hA => exact hA
  | 25, _, _, hA => exact hA
  | 26, _, h, hA =>
    have e : cb K q 26 i = ct K q 26 i := by
      show cbR K 26 i _ _ = ctR K 26 i _ _
      unfold cbR ctR
      simp only [bb_rf_ne (h 0 (by decide))]
    rw [e] at hA; exact hA
  | 27, _, _, hA => exact hA
  | 30, _, h, hA =>
    have e : cb K q 30 i = ct K q 30 i := by
      show cbR K 30 i _ _ = ctR K 30 i _ _
      unfold cbR ctR
      simp only [bb_rf_ne (h 0 (by decide)), bb_rf_ne (h 1 (by decide)), bb_rf_ne (h 2 (by decide)), bb_rf_ne (h 3 (by decide)), bb_rf_ne (h 6 (by decide)), bb_rf_ne (h 8 (by decide)), bb_rf_ne (h 9 (by decide)), bb_rf_ne (h 10 (by decide)), bb_rf_ne (h 11 (by decide)), bb_rf_ne (h 12 (by decide)), bb_rf_ne (h 13 (by decide)), bb_rf_ne (h 14 (by decide)), bb_rf_ne (h 15 (by decide)), bb_rf_ne (h 16 (by decide)), bb_rf_ne (h 17 (by decide)), bb_rf_ne (h 18 (by decide)), bb_rf_ne (h 19 (by decide)), bb_rf_ne (h 20 (by decide)), bb_rf_ne (h 21 (by decide)), bb_rf_ne (h 22 (by decide)), bb_rf_ne (h 23 (by decide)), bb_rf_ne (h 24 (by decide)), bb_rf_ne (h 25 (by decide)), bb_rf_ne (h 26 (by decide)), bb_rf_ne (h 27 (by decide)), bb_rf_ne (h 28 (by decide)), bb_rf_ne (h 29 (by decide)), bb_rf_ne (h 32 (by decide)), bb_rf_ne (h 33 (by decide)), bb_rf_ne (h 34 (by decide)), bb_rf_ne (h 37 (by decide))]
    rw [e] at hA; exact hA
  | 31, _, _, hA => exact hA
  | 32, _, _, hA => exact hA
  | 33, _, _, hA => exact hA
  | 34, _, _, hA => exact hA
  | 35, _, _, hA => exact hA
  | 36, _, _, hA => exact hA
  | 37, _, _, hA => exact hA
  | 38, _, _, hA => exact hA
  | 39, _, _, hA => exact hA
  | 40, _, _, hA => exact hA
  | 41, _, _, hA => exact hA
  | 42, _, _, hA => exact hA
  | 43, _, _, hA => exact hA
  | 44, _, _, hA => exact hA
  | 45, _, _, hA => exact hA
  | 46, _, _, hA => exact hA
  | 47, _, _, hA => exact hA
  | 48, _, _, hA => exact hA
  | 49, _, _, hA => exact hA
  | 50, _, _, hA => exact hA
  | 51, _, _, hA => exact hA
  | 52, _, _, hA => exact hA
  | 53, _, _, hA => exact hA
  | 54, _, _, hA => exact hA
  | 55, _, _, hA => exact hA
  | 56, _, _, hA => exact hA
  | 57, _, _, hA => exact hA
  | 58, _, _, hA => exact hA
  | 59, _, _, hA => exact hA
  | 60, _, _, hA => exact hA
  | 61, _, _, hA => exact hA
  | 70, _, _, hA => exact hA
  | 28, hi, _, _ => exact absurd hi (Nat.not_lt_zero _)
  | 29, hi, _, _ => exact absurd hi (Nat.not_lt_zero _)
  | 62, hi, _, _ => exact absurd hi (Nat.not_lt_zero _)
  | 63, hi, _, _ => exact absurd hi (Nat.not_lt_zero _)
  | 64, hi, _, _ => exact absurd hi (Nat.not_lt_zero _)
  | 65, hi, _, _ => exact absurd hi (Nat.not_lt_zero _)
  | 66, hi, _, _ => exact absurd hi (Nat.not_lt_zero _)
  | 67, hi, _, _ => exact absurd hi (Nat.not_lt_zero _)
  | 68, hi, _, _ => exact absurd hi (Nat.not_lt_zero _)
  | 69, hi, _, _ => exact absurd hi (Nat.not_lt_zero _)
  | n + 71, hi, _, _ => exact absurd hi (Nat.not_lt_zero _)

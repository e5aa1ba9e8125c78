-- numbers: the small whole numbers among the ints
theorem qI_nat {a : Nat} (h : a < 2147483648) : (nI a).toNatClampNeg = a := by
  show (Int32.ofNat a).toInt.toNat = a
  rw [Int32.toInt_ofNat_of_lt (by simpa using h)]; rfl
theorem qI_int {a : Nat} (h : a < 2147483648) : (nI a).toInt = (a : Int) := by
  show (Int32.ofNat a).toInt = a
  rw [Int32.toInt_ofNat_of_lt (by simpa using h)]
theorem qI_lit (n : Nat) : (OfNat.ofNat n : Int32) = nI (OfNat.ofNat n) := rfl
def mone : Int32 := -1
theorem qI_m1 : -(nI 1) = mone := rfl
theorem mone_int : mone.toInt = -1 := by decide
theorem qI_le {a b : Nat} (h : a < 2147483648) (h' : b < 2147483648) : nI a ≤ nI b ↔ a ≤ b := by
  rw [Int32.le_iff_toInt_le, qI_int h, qI_int h']; omega
theorem qI_lt {a b : Nat} (h : a < 2147483648) (h' : b < 2147483648) : nI a < nI b ↔ a < b := by
  rw [Int32.lt_iff_toInt_lt, qI_int h, qI_int h']; omega
theorem qI_inj {a b : Nat} (h : a < 2147483648) (h' : b < 2147483648) : nI a = nI b ↔ a = b := by
  rw [← Int32.toInt_inj, qI_int h, qI_int h']; omega
theorem qI_add (a b : Nat) : nI a + nI b = nI (a + b) := (Int32.ofNat_add a b).symm
theorem qI_mul (a b : Nat) : nI a * nI b = nI (a * b) := (Int32.ofNat_mul a b).symm
theorem qI_sub {a b : Nat} (h : b ≤ a) : nI a - nI b = nI (a - b) := by
  have : nI a = nI (a - b) + nI b := by rw [qI_add]; congr 1; omega
  rw [this, Int32.add_sub_cancel]
theorem qI_div {a b : Nat} (h : a < 2147483648) (hb : b < 2147483648) : nI a / nI b = nI (a / b) := by
  rw [← Int32.toInt_inj]
  have h1 : (a / b) < 2147483648 := Nat.lt_of_le_of_lt (Nat.div_le_self a b) h
  rw [qI_int h1, Int32.toInt_div_of_ne_left _ _ (by intro h9; have := congrArg Int32.toInt h9; rw [qI_int h] at this; have h2 : Int32.minValue.toInt = -2147483648 := by decide
                                                    rw [h2] at this; omega), qI_int h, qI_int hb]
  rw [Int.tdiv_eq_ediv_of_nonneg (by omega)]; norm_cast
theorem qI_rem {a b : Nat} (h : a < 2147483648) (hb : b < 2147483648) : mm_irem (nI a) (nI b) = nI (a % b) := by
  unfold mm_irem
  rw [qI_div h hb, qI_mul, qI_sub (Nat.div_mul_le_self a b)]
  congr 1
  have := Nat.div_add_mod a b
  rw [Nat.mul_comm] at this; omega
theorem qI_ne_m {a : Nat} (h : a < 2147483648) : (nI a = mone) = False := by
  apply eq_false; intro h9; have := congrArg Int32.toInt h9; rw [qI_int h, mone_int] at this; omega
theorem m_ne_nI {a : Nat} (h : a < 2147483648) : (mone = nI a) = False := by
  apply eq_false; intro h9; exact (qI_ne_m h).mp h9.symm
theorem m_lt_nI {a : Nat} (h : a < 2147483648) : (mone < nI a) = True := by
  apply eq_true; rw [Int32.lt_iff_toInt_lt, qI_int h, mone_int]; omega
theorem m_le_nI {a : Nat} (h : a < 2147483648) : (mone ≤ nI a) = True := by
  apply eq_true; rw [Int32.le_iff_toInt_le, qI_int h, mone_int]; omega
theorem qI_lt_m {a : Nat} (h : a < 2147483648) : (nI a < mone) = False := by
  apply eq_false; rw [Int32.lt_iff_toInt_lt, qI_int h, mone_int]; omega
theorem qI_le_m {a : Nat} (h : a < 2147483648) : (nI a ≤ mone) = False := by
  apply eq_false; rw [Int32.le_iff_toInt_le, qI_int h, mone_int]; omega
theorem mone_ne0 : (mone = nI 0) = False := by decide
-- a number is small and whole, or below nought
theorem qI_cases (x : Int32) : (x < nI 0) ∨ ∃ a, a < 2147483648 ∧ x = nI a := by
  by_cases h : x < nI 0
  · exact .inl h
  · refine .inr ⟨x.toInt.toNat, ?_, ?_⟩
    · have := Int32.toInt_lt x; omega
    · have h0 : (0 : Int) ≤ x.toInt := by
        rw [Int32.lt_iff_toInt_lt, qI_int (by omega)] at h; omega
      have := Int32.toInt_lt x
      rw [← Int32.toInt_inj, qI_int (by omega)]; omega
-- reading and writing
theorem ld_ok {s : Mem} {F i N j : Nat} {k : Int32 → RR} (h : j < N) (hN : j < 2147483648) : mm_ld s F i N (nI j) k = k (s.1 F i j) := by
  unfold mm_ld
  rw [if_neg (by rw [qI_nat hN, show (0 : Int32) = nI 0 from rfl, qI_lt hN (by omega)]; omega), qI_nat hN]
theorem ldj_ok {s : Mem} {F i N j : Nat} {k : Int64 → RR} (h : j < N) (hN : j < 2147483648) : mm_ldj s F i N (nI j) k = k (s.2 F i j) := by
  unfold mm_ldj
  rw [if_neg (by rw [qI_nat hN, show (0 : Int32) = nI 0 from rfl, qI_lt hN (by omega)]; omega), qI_nat hN]
theorem al_ok {N j : Nat} {k : Nat → RR} (h : j < N) (hN : j < 2147483648) : mm_al N (nI j) k = k j := by
  unfold mm_al
  rw [if_neg (by rw [qI_nat hN, show (0 : Int32) = nI 0 from rfl, qI_lt hN (by omega)]; omega), qI_nat hN]
theorem st_ok {s : Mem} {F i N j : Nat} {v : Int32} {k : Mem → RR} (h : j < N) (hN : j < 2147483648) : mm_st s F i N (nI j) v k = k (mm_wI s F i j v) := by
  unfold mm_st
  rw [if_neg (by rw [qI_nat hN, show (0 : Int32) = nI 0 from rfl, qI_lt hN (by omega)]; omega), qI_nat hN]
theorem stj_ok {s : Mem} {F i N j : Nat} {v : Int64} {k : Mem → RR} (h : j < N) (hN : j < 2147483648) : mm_stj s F i N (nI j) v k = k (mm_wJ s F i j v) := by
  unfold mm_stj
  rw [if_neg (by rw [qI_nat hN, show (0 : Int32) = nI 0 from rfl, qI_lt hN (by omega)]; omega), qI_nat hN]
def bI (b : Bool) : Int32 := if b then 1 else 0
theorem sz_ok {s : Mem} {F i N j : Nat} {v : Int32} {k : Mem → RR} (h : j < N) (hN : j < 2147483648) (hv : v = nI 0 ∨ v = nI 1) : mm_sz s F i N (nI j) v k = k (mm_wI s F i j v) := by
  unfold mm_sz
  rw [if_neg (by rw [qI_nat hN, show (0 : Int32) = nI 0 from rfl, qI_lt hN (by omega)]; omega), qI_nat hN]
  rcases hv with rfl | rfl <;> rfl
theorem sz_okb {s : Mem} {F i N j : Nat} {b : Bool} {k : Mem → RR} (h : j < N) (hN : j < 2147483648) : mm_sz s F i N (nI j) (bI b) k = k (mm_wI s F i j (bI b)) := sz_ok h hN (by cases b; exact .inl rfl; exact .inr rfl)
theorem pz_okb {s : Mem} {F i j : Nat} {b : Bool} {k : Mem → RR} : mm_pz s F i j (bI b) k = k (mm_wI s F i j (bI b)) := by cases b <;> rfl
theorem bI_0 (b : Bool) : (bI b = nI 0) = (b = false) := by cases b <;> decide
theorem bI_1 (b : Bool) : (bI b = nI 1) = (b = true) := by cases b <;> decide
theorem bI_t : bI true = nI 1 := rfl
theorem bI_f : bI false = nI 0 := rfl
def u1 {α : Type} (f : Nat → α) (i : Nat) (v : α) : Nat → α := fun i' => if i' = i then v else f i'
def u2 {α : Type} (f : Nat → Nat → α) (i k : Nat) (v : α) : Nat → Nat → α := fun i' k' => if i' = i ∧ k' = k then v else f i' k'
theorem wI_ne {s : Mem} {F F' i k : Nat} {v : Int32} (h : F' ≠ F) : (mm_wI s F i k v).1 F' = s.1 F' := by
  funext i' k'; show (if _ then _ else _) = _; rw [if_neg (fun h9 => h h9.1)]
theorem wI_eq {s : Mem} {F i k : Nat} {v : Int32} : (mm_wI s F i k v).1 F = u2 (s.1 F) i k v := by
  funext i' k'; simp [mm_wI, u2]
theorem wI_2 {s : Mem} {F i k : Nat} {v : Int32} : (mm_wI s F i k v).2 = s.2 := rfl
theorem wJ_1 {s : Mem} {F i k : Nat} {v : Int64} : (mm_wJ s F i k v).1 = s.1 := rfl
theorem wJ_ne {s : Mem} {F F' i k : Nat} {v : Int64} (h : F' ≠ F) : (mm_wJ s F i k v).2 F' = s.2 F' := by
  funext i' k'; show (if _ then _ else _) = _; rw [if_neg (fun h9 => h h9.1)]
theorem wJ_eq {s : Mem} {F i k : Nat} {v : Int64} : (mm_wJ s F i k v).2 F = u2 (s.2 F) i k v := by
  funext i' k'; simp [mm_wJ, u2]
theorem u2_at {α : Type} {f : Nat → Nat → α} {i k : Nat} {v : α} : u2 f i k v i k = v := if_pos ⟨rfl, rfl⟩
theorem u2_ne {α : Type} {f : Nat → Nat → α} {i k i' k' : Nat} {v : α} (h : ¬ (i' = i ∧ k' = k)) : u2 f i k v i' k' = f i' k' := if_neg h
theorem u1_at {α : Type} {f : Nat → α} {i : Nat} {v : α} : u1 f i v i = v := if_pos rfl
theorem u1_ne {α : Type} {f : Nat → α} {i i' : Nat} {v : α} (h : ¬ i' = i) : u1 f i v i' = f i' := if_neg h
theorem cI_ok {v : Int32} {s : Mem} {k : Int32 → Mem → RR} : mm_cI (mm_ri v s) k = k v s := rfl
theorem cV_ok {s : Mem} {k : Mem → RR} : mm_cV (mm_rv s) k = k s := rfl
theorem tV_ok {s : Mem} {k : Mem → RR} : mm_tV (mm_rv s) k = k s := rfl
theorem tV_th {e : Nat} {s : Mem} {k : Mem → RR} : mm_tV (mm_th e s) k = mm_th e s := rfl
theorem rz_0 {s : Mem} : mm_rz (nI 0) s = mm_ri (nI 0) s := rfl
theorem rz_1 {s : Mem} : mm_rz (nI 1) s = mm_ri (nI 1) s := rfl
theorem rz_b {s : Mem} {b : Bool} : mm_rz (bI b) s = mm_ri (bI b) s := by cases b <;> rfl

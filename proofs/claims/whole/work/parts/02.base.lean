-- the picture of the cells: families of cells, each with its rows of numbers
abbrev Mem : Type := (Nat → Nat → Nat → Int32) × (Nat → Nat → Nat → Int64)
abbrev Oc : Type := Nat ⊕ Option Value
abbrev RR : Type := Option (Oc × Mem)
abbrev KK : Type := Nat × va_G × (Nat → ClassId) × (Nat → Nat → Nat)
abbrev Cx : Type := Program × Launch × Env × Room × State × MethodId × Array Value × List Frame × Method × Code × (State → Prop) × Nat × Nat
def FU : Nat := 100000
def aa (K : KK) (F i : Nat) : Nat := K.2.2.2 F i
-- what a method does, in steps
def mm_wI (σ : Mem) (F i k : Nat) (v : Int32) : Mem := (fun F' i' k' => if F' = F ∧ i' = i ∧ k' = k then v else σ.1 F' i' k', σ.2)
def mm_wJ (σ : Mem) (F i k : Nat) (v : Int64) : Mem := (σ.1, fun F' i' k' => if F' = F ∧ i' = i ∧ k' = k then v else σ.2 F' i' k')
def mm_ld (σ : Mem) (F i N : Nat) (x : Int32) (k : Int32 → RR) : RR := if x < 0 ∨ N ≤ x.toNatClampNeg then none else k (σ.1 F i x.toNatClampNeg)
def mm_ldj (σ : Mem) (F i N : Nat) (x : Int32) (k : Int64 → RR) : RR := if x < 0 ∨ N ≤ x.toNatClampNeg then none else k (σ.2 F i x.toNatClampNeg)
def mm_al (N : Nat) (x : Int32) (k : Nat → RR) : RR := if x < 0 ∨ N ≤ x.toNatClampNeg then none else k x.toNatClampNeg
def mm_st (σ : Mem) (F i N : Nat) (x v : Int32) (k : Mem → RR) : RR := if x < 0 ∨ N ≤ x.toNatClampNeg then none else k (mm_wI σ F i x.toNatClampNeg v)
def mm_sz (σ : Mem) (F i N : Nat) (x v : Int32) (k : Mem → RR) : RR := if x < 0 ∨ N ≤ x.toNatClampNeg then none else k (mm_wI σ F i x.toNatClampNeg (vp_nar .boolean v))
def mm_stj (σ : Mem) (F i N : Nat) (x : Int32) (v : Int64) (k : Mem → RR) : RR := if x < 0 ∨ N ≤ x.toNatClampNeg then none else k (mm_wJ σ F i x.toNatClampNeg v)
def mm_gf (σ : Mem) (F i q : Nat) (k : Int32 → RR) : RR := k (σ.1 F i q)
def mm_pf (σ : Mem) (F i q : Nat) (v : Int32) (k : Mem → RR) : RR := k (mm_wI σ F i q v)
def mm_pz (σ : Mem) (F i q : Nat) (v : Int32) (k : Mem → RR) : RR := if v = 0 ∨ v = 1 then k (mm_wI σ F i q v) else none
def mm_ri (v : Int32) (σ : Mem) : RR := some (.inr (some (.int v)), σ)
def mm_rz (v : Int32) (σ : Mem) : RR := if v = 0 ∨ v = 1 then some (.inr (some (.int v)), σ) else none
def mm_rj (v : Int64) (σ : Mem) : RR := some (.inr (some (.long v)), σ)
def mm_rv (σ : Mem) : RR := some (.inr none, σ)
def mm_th (e : Nat) (σ : Mem) : RR := some (.inl e, σ)
def mm_cI (a : RR) (k : Int32 → Mem → RR) : RR := match a with
  | some (.inr (some (.int v)), σ) => k v σ
  | _ => none
def mm_cJ (a : RR) (k : Int64 → Mem → RR) : RR := match a with
  | some (.inr (some (.long v)), σ) => k v σ
  | _ => none
def mm_cV (a : RR) (k : Mem → RR) : RR := match a with
  | some (.inr none, σ) => k σ
  | _ => none
def mm_tV (a : RR) (k : Mem → RR) : RR := match a with
  | some (.inr none, σ) => k σ
  | some (.inl e, σ) => some (.inl e, σ)
  | _ => none
def mm_jn {α : Type} (r : α → Mem → RR) (b : (α → Mem → RR) → RR) : RR := b r
abbrev mm_lp {α : Type} (b : α → RR) (k : α) : RR := b k
def mm_nz (y : Int32) (a : RR) : RR := if y = 0 then none else a
def mm_ishl (x y : Int32) : Int32 := x <<< (y &&& 31)
def mm_ishr (x y : Int32) : Int32 := x >>> (y &&& 31)
def mm_iushr (x y : Int32) : Int32 := (x.toUInt32 >>> (y.toUInt32 &&& Int32.toUInt32 31)).toInt32
def mm_lshl (x : Int64) (y : Int32) : Int64 := x <<< (y.toInt64 &&& 63)
def mm_lushr (x : Int64) (y : Int32) : Int64 := (x.toUInt64 >>> (y.toInt64.toUInt64 &&& Int64.toUInt64 63)).toInt64
def mm_irem (x y : Int32) : Int32 := x - x / y * y
def mm_max (x y : Int32) : Int32 := if x < y then y else x
def mm_min (x y : Int32) : Int32 := if y < x then y else x
def mm_cp (σ : Mem) (F i N : Nat) (sp : Int32) (F2 i2 N2 : Nat) (dp n : Int32) (k : Mem → RR) : RR :=
  if sp < 0 ∨ dp < 0 ∨ n < 0 ∨ ¬ sp.toNatClampNeg + n.toNatClampNeg ≤ N ∨ ¬ dp.toNatClampNeg + n.toNatClampNeg ≤ N2 then none
  else k (σ.1, fun F' i' k' => if F' = F2 ∧ i' = i2 then va_cpy (σ.2 F i) (σ.2 F2 i2) sp.toNatClampNeg dp.toNatClampNeg n.toNatClampNeg k' else σ.2 F' i' k')

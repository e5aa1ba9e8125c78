section VRows
variable {K : KK} {Γ : Cx} {cc : ByteArray} {own : String} {nL fr lo n : Nat} {σ : Mem} {pc : Nat} {L : List (Nat × Value)} {S : List Value} {fin : Oc × Mem}
theorem ww_iadd {x y : Int32} (G : Good K Γ cc own nL fr lo) (d : decode cc pc = .ok (.iadd, 1))  (k : WW K Γ n σ (pc + 1) L (.int (x + y) :: S)) : WW K Γ n σ pc L (.int y :: .int x :: S) := by
  obtain ⟨p, l, e, R, s, m, args, below, meth, c, Q, c0, s0⟩ := Γ
  obtain ⟨hx, hb, hml, hown, hts, hK, hR, hlk, hz, hst, hU, hN⟩ := G
  intro H locs ls hl hP hD hS
  exact lv_iadd hx hb d (k H locs ls hl hP hD hS)
theorem ww_isub {x y : Int32} (G : Good K Γ cc own nL fr lo) (d : decode cc pc = .ok (.isub, 1))  (k : WW K Γ n σ (pc + 1) L (.int (x - y) :: S)) : WW K Γ n σ pc L (.int y :: .int x :: S) := by
  obtain ⟨p, l, e, R, s, m, args, below, meth, c, Q, c0, s0⟩ := Γ
  obtain ⟨hx, hb, hml, hown, hts, hK, hR, hlk, hz, hst, hU, hN⟩ := G
  intro H locs ls hl hP hD hS
  exact lv_isub hx hb d (k H locs ls hl hP hD hS)
theorem ww_imul {x y : Int32} (G : Good K Γ cc own nL fr lo) (d : decode cc pc = .ok (.imul, 1))  (k : WW K Γ n σ (pc + 1) L (.int (x * y) :: S)) : WW K Γ n σ pc L (.int y :: .int x :: S) := by
  obtain ⟨p, l, e, R, s, m, args, below, meth, c, Q, c0, s0⟩ := Γ
  obtain ⟨hx, hb, hml, hown, hts, hK, hR, hlk, hz, hst, hU, hN⟩ := G
  intro H locs ls hl hP hD hS
  exact lv_imul hx hb d (k H locs ls hl hP hD hS)
theorem ww_iand {x y : Int32} (G : Good K Γ cc own nL fr lo) (d : decode cc pc = .ok (.iand, 1))  (k : WW K Γ n σ (pc + 1) L (.int (x &&& y) :: S)) : WW K Γ n σ pc L (.int y :: .int x :: S) := by
  obtain ⟨p, l, e, R, s, m, args, below, meth, c, Q, c0, s0⟩ := Γ
  obtain ⟨hx, hb, hml, hown, hts, hK, hR, hlk, hz, hst, hU, hN⟩ := G
  intro H locs ls hl hP hD hS
  exact lv_iand hx hb d (k H locs ls hl hP hD hS)
theorem ww_ior {x y : Int32} (G : Good K Γ cc own nL fr lo) (d : decode cc pc = .ok (.ior, 1))  (k : WW K Γ n σ (pc + 1) L (.int (x ||| y) :: S)) : WW K Γ n σ pc L (.int y :: .int x :: S) := by
  obtain ⟨p, l, e, R, s, m, args, below, meth, c, Q, c0, s0⟩ := Γ
  obtain ⟨hx, hb, hml, hown, hts, hK, hR, hlk, hz, hst, hU, hN⟩ := G
  intro H locs ls hl hP hD hS
  exact lv_ior hx hb d (k H locs ls hl hP hD hS)
theorem ww_ixor {x y : Int32} (G : Good K Γ cc own nL fr lo) (d : decode cc pc = .ok (.ixor, 1))  (k : WW K Γ n σ (pc + 1) L (.int (x ^^^ y) :: S)) : WW K Γ n σ pc L (.int y :: .int x :: S) := by
  obtain ⟨p, l, e, R, s, m, args, below, meth, c, Q, c0, s0⟩ := Γ
  obtain ⟨hx, hb, hml, hown, hts, hK, hR, hlk, hz, hst, hU, hN⟩ := G
  intro H locs ls hl hP hD hS
  exact lv_ixor hx hb d (k H locs ls hl hP hD hS)
theorem ww_land {x y : Int64} (G : Good K Γ cc own nL fr lo) (d : decode cc pc = .ok (.land, 1))  (k : WW K Γ n σ (pc + 1) L (.long (x &&& y) :: S)) : WW K Γ n σ pc L (.long y :: .long x :: S) := by
  obtain ⟨p, l, e, R, s, m, args, below, meth, c, Q, c0, s0⟩ := Γ
  obtain ⟨hx, hb, hml, hown, hts, hK, hR, hlk, hz, hst, hU, hN⟩ := G
  intro H locs ls hl hP hD hS
  exact lv_land hx hb d (k H locs ls hl hP hD hS)
theorem ww_lxor {x y : Int64} (G : Good K Γ cc own nL fr lo) (d : decode cc pc = .ok (.lxor, 1))  (k : WW K Γ n σ (pc + 1) L (.long (x ^^^ y) :: S)) : WW K Γ n σ pc L (.long y :: .long x :: S) := by
  obtain ⟨p, l, e, R, s, m, args, below, meth, c, Q, c0, s0⟩ := Γ
  obtain ⟨hx, hb, hml, hown, hts, hK, hR, hlk, hz, hst, hU, hN⟩ := G
  intro H locs ls hl hP hD hS
  exact lv_lxor hx hb d (k H locs ls hl hP hD hS)
theorem ww_ishl {x y : Int32} (G : Good K Γ cc own nL fr lo) (d : decode cc pc = .ok (.ishl, 1))  (k : WW K Γ n σ (pc + 1) L (.int (mm_ishl x y) :: S)) : WW K Γ n σ pc L (.int y :: .int x :: S) := by
  obtain ⟨p, l, e, R, s, m, args, below, meth, c, Q, c0, s0⟩ := Γ
  obtain ⟨hx, hb, hml, hown, hts, hK, hR, hlk, hz, hst, hU, hN⟩ := G
  intro H locs ls hl hP hD hS
  exact lv_ishl hx hb d (k H locs ls hl hP hD hS)
theorem ww_ishr {x y : Int32} (G : Good K Γ cc own nL fr lo) (d : decode cc pc = .ok (.ishr, 1))  (k : WW K Γ n σ (pc + 1) L (.int (mm_ishr x y) :: S)) : WW K Γ n σ pc L (.int y :: .int x :: S) := by
  obtain ⟨p, l, e, R, s, m, args, below, meth, c, Q, c0, s0⟩ := Γ
  obtain ⟨hx, hb, hml, hown, hts, hK, hR, hlk, hz, hst, hU, hN⟩ := G
  intro H locs ls hl hP hD hS
  exact lv_ishr hx hb d (k H locs ls hl hP hD hS)
theorem ww_iushr {x y : Int32} (G : Good K Γ cc own nL fr lo) (d : decode cc pc = .ok (.iushr, 1))  (k : WW K Γ n σ (pc + 1) L (.int (mm_iushr x y) :: S)) : WW K Γ n σ pc L (.int y :: .int x :: S) := by
  obtain ⟨p, l, e, R, s, m, args, below, meth, c, Q, c0, s0⟩ := Γ
  obtain ⟨hx, hb, hml, hown, hts, hK, hR, hlk, hz, hst, hU, hN⟩ := G
  intro H locs ls hl hP hD hS
  exact lv_iushr hx hb d rfl (k H locs ls hl hP hD hS)
theorem ww_lshl {x : Int64} {y : Int32} (G : Good K Γ cc own nL fr lo) (d : decode cc pc = .ok (.lshl, 1))  (k : WW K Γ n σ (pc + 1) L (.long (mm_lshl x y) :: S)) : WW K Γ n σ pc L (.int y :: .long x :: S) := by
  obtain ⟨p, l, e, R, s, m, args, below, meth, c, Q, c0, s0⟩ := Γ
  obtain ⟨hx, hb, hml, hown, hts, hK, hR, hlk, hz, hst, hU, hN⟩ := G
  intro H locs ls hl hP hD hS
  exact lv_lshl hx hb d rfl (k H locs ls hl hP hD hS)
theorem ww_lushr {x : Int64} {y : Int32} (G : Good K Γ cc own nL fr lo) (d : decode cc pc = .ok (.lushr, 1))  (k : WW K Γ n σ (pc + 1) L (.long (mm_lushr x y) :: S)) : WW K Γ n σ pc L (.int y :: .long x :: S) := by
  obtain ⟨p, l, e, R, s, m, args, below, meth, c, Q, c0, s0⟩ := Γ
  obtain ⟨hx, hb, hml, hown, hts, hK, hR, hlk, hz, hst, hU, hN⟩ := G
  intro H locs ls hl hP hD hS
  exact lv_lushr hx hb d rfl (k H locs ls hl hP hD hS)
theorem ww_l2i {x : Int64} (G : Good K Γ cc own nL fr lo) (d : decode cc pc = .ok (.l2i, 1))  (k : WW K Γ n σ (pc + 1) L (.int x.toInt32 :: S)) : WW K Γ n σ pc L (.long x :: S) := by
  obtain ⟨p, l, e, R, s, m, args, below, meth, c, Q, c0, s0⟩ := Γ
  obtain ⟨hx, hb, hml, hown, hts, hK, hR, hlk, hz, hst, hU, hN⟩ := G
  intro H locs ls hl hP hD hS
  exact lv_l2i hx hb d rfl (k H locs ls hl hP hD hS)
theorem ww_i2l {x : Int32} (G : Good K Γ cc own nL fr lo) (d : decode cc pc = .ok (.i2l, 1))  (k : WW K Γ n σ (pc + 1) L (.long x.toInt64 :: S)) : WW K Γ n σ pc L (.int x :: S) := by
  obtain ⟨p, l, e, R, s, m, args, below, meth, c, Q, c0, s0⟩ := Γ
  obtain ⟨hx, hb, hml, hown, hts, hK, hR, hlk, hz, hst, hU, hN⟩ := G
  intro H locs ls hl hP hD hS
  exact lv_i2l hx hb d rfl (k H locs ls hl hP hD hS)
theorem ww_lcmp {x y : Int64} (G : Good K Γ cc own nL fr lo) (d : decode cc pc = .ok (.lcmp, 1))  (k : WW K Γ n σ (pc + 1) L (.int (lg_cmp x y) :: S)) : WW K Γ n σ pc L (.long y :: .long x :: S) := by
  obtain ⟨p, l, e, R, s, m, args, below, meth, c, Q, c0, s0⟩ := Γ
  obtain ⟨hx, hb, hml, hown, hts, hK, hR, hlk, hz, hst, hU, hN⟩ := G
  intro H locs ls hl hP hD hS
  exact W.lcmp hx hb d (k H locs ls hl hP hD hS)
theorem ww_idiv {x y : Int32} (G : Good K Γ cc own nL fr lo) (d : decode cc pc = .ok (.idiv, 1)) (hne : ¬ y = 0) (k : WW K Γ n σ (pc + 1) L (.int (x / y) :: S)) : WW K Γ n σ pc L (.int y :: .int x :: S) := by
  obtain ⟨p, l, e, R, s, m, args, below, meth, c, Q, c0, s0⟩ := Γ
  obtain ⟨hx, hb, hml, hown, hts, hK, hR, hlk, hz, hst, hU, hN⟩ := G
  intro H locs ls hl hP hD hS
  exact lv_idiv hx hb d hne (k H locs ls hl hP hD hS)
theorem ww_irem {x y : Int32} (G : Good K Γ cc own nL fr lo) (d : decode cc pc = .ok (.irem, 1)) (hne : ¬ y = 0) (k : WW K Γ n σ (pc + 1) L (.int (mm_irem x y) :: S)) : WW K Γ n σ pc L (.int y :: .int x :: S) := by
  obtain ⟨p, l, e, R, s, m, args, below, meth, c, Q, c0, s0⟩ := Γ
  obtain ⟨hx, hb, hml, hown, hts, hK, hR, hlk, hz, hst, hU, hN⟩ := G
  intro H locs ls hl hP hD hS
  exact lv_irem hx hb d hne (k H locs ls hl hP hD hS)
theorem ww_idivz {x y : Int32} {A : RR} (G : Good K Γ cc own nL fr lo) (d : decode cc pc = .ok (.idiv, 1)) (h : mm_nz y A = some fin) (k : A = some fin → WW K Γ n σ (pc + 1) L (.int (x / y) :: S)) : WW K Γ n σ pc L (.int y :: .int x :: S) := by
  by_cases hy : y = 0
  · rw [mm_nz, if_pos hy] at h; exact nomatch h
  · rw [mm_nz, if_neg hy] at h; exact ww_idiv G d hy (k h)
theorem ww_iremz {x y : Int32} {A : RR} (G : Good K Γ cc own nL fr lo) (d : decode cc pc = .ok (.irem, 1)) (h : mm_nz y A = some fin) (k : A = some fin → WW K Γ n σ (pc + 1) L (.int (mm_irem x y) :: S)) : WW K Γ n σ pc L (.int y :: .int x :: S) := by
  by_cases hy : y = 0
  · rw [mm_nz, if_pos hy] at h; exact nomatch h
  · rw [mm_nz, if_neg hy] at h; exact ww_irem G d hy (k h)
theorem ww_iconst {v : Int32} {q : Int} (G : Good K Γ cc own nL fr lo) (d : decode cc pc = .ok (.iconst q, 1)) (hv : Int32.ofInt q = v) (k : WW K Γ n σ (pc + 1) L (.int v :: S)) : WW K Γ n σ pc L (S) := by
  obtain ⟨p, l, e, R, s, m, args, below, meth, c, Q, c0, s0⟩ := Γ
  obtain ⟨hx, hb, hml, hown, hts, hK, hR, hlk, hz, hst, hU, hN⟩ := G
  intro H locs ls hl hP hD hS
  exact lv_iconst hx hb d hv (k H locs ls hl hP hD hS)
theorem ww_bipush {v : Int32} {q : Int} (G : Good K Γ cc own nL fr lo) (d : decode cc pc = .ok (.bipush q, 2)) (hv : (Int8.ofInt q).toInt32 = v) (k : WW K Γ n σ (pc + 2) L (.int v :: S)) : WW K Γ n σ pc L (S) := by
  obtain ⟨p, l, e, R, s, m, args, below, meth, c, Q, c0, s0⟩ := Γ
  obtain ⟨hx, hb, hml, hown, hts, hK, hR, hlk, hz, hst, hU, hN⟩ := G
  intro H locs ls hl hP hD hS
  exact lv_bipush hx hb d hv (k H locs ls hl hP hD hS)
theorem ww_sipush {v : Int32} {q : Int} (G : Good K Γ cc own nL fr lo) (d : decode cc pc = .ok (.sipush q, 3)) (hv : (Int16.ofInt q).toInt32 = v) (k : WW K Γ n σ (pc + 3) L (.int v :: S)) : WW K Γ n σ pc L (S) := by
  obtain ⟨p, l, e, R, s, m, args, below, meth, c, Q, c0, s0⟩ := Γ
  obtain ⟨hx, hb, hml, hown, hts, hK, hR, hlk, hz, hst, hU, hN⟩ := G
  intro H locs ls hl hP hD hS
  exact lv_sipush hx hb d hv (k H locs ls hl hP hD hS)
theorem ww_lconst {v : Int64} {q : Fin 2} (G : Good K Γ cc own nL fr lo) (d : decode cc pc = .ok (.lconst q, 1)) (hv : Int64.ofNat (q : Nat) = v) (k : WW K Γ n σ (pc + 1) L (.long v :: S)) : WW K Γ n σ pc L (S) := by
  obtain ⟨p, l, e, R, s, m, args, below, meth, c, Q, c0, s0⟩ := Γ
  obtain ⟨hx, hb, hml, hown, hts, hK, hR, hlk, hz, hst, hU, hN⟩ := G
  intro H locs ls hl hP hD hS
  exact lv_lconst hx hb d hv (k H locs ls hl hP hD hS)
theorem ww_ldc {v : Int32} {index : Nat} (G : Good K Γ cc own nL fr lo) (d : decode cc pc = .ok (.ldc index, 2)) (hw : Cond.constant own index v ∈ wAll) (k : WW K Γ n σ (pc + 2) L (.int v :: S)) : WW K Γ n σ pc L (S) := by
  obtain ⟨p, l, e, R, s, m, args, below, meth, c, Q, c0, s0⟩ := Γ
  obtain ⟨hx, hb, hml, hown, hts, hK, hR, hlk, hz, hst, hU, hN⟩ := G
  intro H locs ls hl hP hD hS
  exact lv_ldc hx hb hown (hts _ hw) d (k H locs ls hl hP hD hS)
theorem ww_ldc2 {v : Int64} {index : Nat} (G : Good K Γ cc own nL fr lo) (d : decode cc pc = .ok (.ldc2_w index, 3)) (hw : Cond.constantLong own index v ∈ wAll) (k : WW K Γ n σ (pc + 3) L (.long v :: S)) : WW K Γ n σ pc L (S) := by
  obtain ⟨p, l, e, R, s, m, args, below, meth, c, Q, c0, s0⟩ := Γ
  obtain ⟨hx, hb, hml, hown, hts, hK, hR, hlk, hz, hst, hU, hN⟩ := G
  intro H locs ls hl hP hD hS
  exact lv_ldc2 hx hb hown (hts _ hw) d (k H locs ls hl hP hD hS)
theorem ww_dup {v : Value} (G : Good K Γ cc own nL fr lo) (d : decode cc pc = .ok (.dup, 1)) (hv : v.category = 1) (k : WW K Γ n σ (pc + 1) L (v :: v :: S)) : WW K Γ n σ pc L (v :: S) := by
  obtain ⟨p, l, e, R, s, m, args, below, meth, c, Q, c0, s0⟩ := Γ
  obtain ⟨hx, hb, hml, hown, hts, hK, hR, hlk, hz, hst, hU, hN⟩ := G
  intro H locs ls hl hP hD hS
  exact lv_dup hx hb d hv (k H locs ls hl hP hD hS)
theorem ww_pop {v : Value} (G : Good K Γ cc own nL fr lo) (d : decode cc pc = .ok (.pop, 1)) (hv : v.category = 1) (k : WW K Γ n σ (pc + 1) L (S)) : WW K Γ n σ pc L (v :: S) := by
  obtain ⟨p, l, e, R, s, m, args, below, meth, c, Q, c0, s0⟩ := Γ
  obtain ⟨hx, hb, hml, hown, hts, hK, hR, hlk, hz, hst, hU, hN⟩ := G
  intro H locs ls hl hP hD hS
  exact lv_pop hx hb d hv (k H locs ls hl hP hD hS)
theorem ww_dup2 {v w : Value} (G : Good K Γ cc own nL fr lo) (d : decode cc pc = .ok (.dup2, 1)) (hv : v.category = 1) (hw : w.category = 1) (k : WW K Γ n σ (pc + 1) L (v :: w :: v :: w :: S)) : WW K Γ n σ pc L (v :: w :: S) := by
  obtain ⟨p, l, e, R, s, m, args, below, meth, c, Q, c0, s0⟩ := Γ
  obtain ⟨hx, hb, hml, hown, hts, hK, hR, hlk, hz, hst, hU, hN⟩ := G
  intro H locs ls hl hP hD hS
  exact lv_dup2_11 hx hb d hv hw (k H locs ls hl hP hD hS)
theorem ww_iload_n (q : Nat) {i : Nat} {k4 : Fin 4} {x : Int32} (G : Good K Γ cc own nL fr lo) (d : decode cc pc = .ok (.iload_n k4, 1)) (hi : (k4 : Nat) = i) (hq : L[q]? = some (i, .int x)) (k : WW K Γ n σ (pc + 1) L (.int x :: S)) : WW K Γ n σ pc L S := by
  obtain ⟨p, l, e, R, s, m, args, below, meth, c, Q, c0, s0⟩ := Γ
  obtain ⟨hx, hb, hml, hown, hts, hK, hR, hlk, hz, hst, hU, hN⟩ := G
  intro H locs ls hl hP hD hS
  exact lv_iload_n hx hb d hi (lv_at hl q hq) (k H locs ls hl hP hD hS)
theorem ww_iload (q : Nat) {i : Nat} {x : Int32} (G : Good K Γ cc own nL fr lo) (d : decode cc pc = .ok (.iload i, 2)) (hq : L[q]? = some (i, .int x)) (k : WW K Γ n σ (pc + 2) L (.int x :: S)) : WW K Γ n σ pc L S := by
  obtain ⟨p, l, e, R, s, m, args, below, meth, c, Q, c0, s0⟩ := Γ
  obtain ⟨hx, hb, hml, hown, hts, hK, hR, hlk, hz, hst, hU, hN⟩ := G
  intro H locs ls hl hP hD hS
  exact lv_iload hx hb d (lv_at hl q hq) (k H locs ls hl hP hD hS)
theorem ww_istore_n {L' : List (Nat × Value)} {i : Nat} {k4 : Fin 4} {x : Int32} (G : Good K Γ cc own nL fr lo) (d : decode cc pc = .ok (.istore_n k4, 1)) (hi : (k4 : Nat) = i) (hn : i < nL) (hq : (i, Value.int x) :: L.filter (fun q => !(q.1 == i) && !(q.1 + 1 == i && q.2.category == 2)) = L') (k : WW K Γ n σ (pc + 1) L' S) : WW K Γ n σ pc L (.int x :: S) := by
  obtain ⟨p, l, e, R, s, m, args, below, meth, c, Q, c0, s0⟩ := Γ
  obtain ⟨hx, hb, hml, hown, hts, hK, hR, hlk, hz, hst, hU, hN⟩ := G
  intro H locs ls hl hP hD hS
  exact lv_istore_n hx hb d hi hl (hml ▸ hn) hq (fun ls' hl' => k H locs ls' hl' hP hD hS)
theorem ww_istore {L' : List (Nat × Value)} {i : Nat} {x : Int32} (G : Good K Γ cc own nL fr lo) (d : decode cc pc = .ok (.istore i, 2)) (hn : i < nL) (hq : (i, Value.int x) :: L.filter (fun q => !(q.1 == i) && !(q.1 + 1 == i && q.2.category == 2)) = L') (k : WW K Γ n σ (pc + 2) L' S) : WW K Γ n σ pc L (.int x :: S) := by
  obtain ⟨p, l, e, R, s, m, args, below, meth, c, Q, c0, s0⟩ := Γ
  obtain ⟨hx, hb, hml, hown, hts, hK, hR, hlk, hz, hst, hU, hN⟩ := G
  intro H locs ls hl hP hD hS
  exact lv_istore hx hb d hl (hml ▸ hn) hq (fun ls' hl' => k H locs ls' hl' hP hD hS)
theorem ww_aload_n (q : Nat) {i : Nat} {k4 : Fin 4} {x : Nat} (G : Good K Γ cc own nL fr lo) (d : decode cc pc = .ok (.aload_n k4, 1)) (hi : (k4 : Nat) = i) (hq : L[q]? = some (i, .ref x)) (k : WW K Γ n σ (pc + 1) L (.ref x :: S)) : WW K Γ n σ pc L S := by
  obtain ⟨p, l, e, R, s, m, args, below, meth, c, Q, c0, s0⟩ := Γ
  obtain ⟨hx, hb, hml, hown, hts, hK, hR, hlk, hz, hst, hU, hN⟩ := G
  intro H locs ls hl hP hD hS
  exact lv_aload_n hx hb d hi (lv_at hl q hq) (k H locs ls hl hP hD hS)
theorem ww_aload (q : Nat) {i : Nat} {x : Nat} (G : Good K Γ cc own nL fr lo) (d : decode cc pc = .ok (.aload i, 2)) (hq : L[q]? = some (i, .ref x)) (k : WW K Γ n σ (pc + 2) L (.ref x :: S)) : WW K Γ n σ pc L S := by
  obtain ⟨p, l, e, R, s, m, args, below, meth, c, Q, c0, s0⟩ := Γ
  obtain ⟨hx, hb, hml, hown, hts, hK, hR, hlk, hz, hst, hU, hN⟩ := G
  intro H locs ls hl hP hD hS
  exact lv_aload hx hb d (lv_at hl q hq) (k H locs ls hl hP hD hS)
theorem ww_astore_n {L' : List (Nat × Value)} {i : Nat} {k4 : Fin 4} {x : Nat} (G : Good K Γ cc own nL fr lo) (d : decode cc pc = .ok (.astore_n k4, 1)) (hi : (k4 : Nat) = i) (hn : i < nL) (hq : (i, Value.ref x) :: L.filter (fun q => !(q.1 == i) && !(q.1 + 1 == i && q.2.category == 2)) = L') (k : WW K Γ n σ (pc + 1) L' S) : WW K Γ n σ pc L (.ref x :: S) := by
  obtain ⟨p, l, e, R, s, m, args, below, meth, c, Q, c0, s0⟩ := Γ
  obtain ⟨hx, hb, hml, hown, hts, hK, hR, hlk, hz, hst, hU, hN⟩ := G
  intro H locs ls hl hP hD hS
  exact lv_astore_n hx hb d hi hl (hml ▸ hn) hq (fun ls' hl' => k H locs ls' hl' hP hD hS)
theorem ww_astore {L' : List (Nat × Value)} {i : Nat} {x : Nat} (G : Good K Γ cc own nL fr lo) (d : decode cc pc = .ok (.astore i, 2)) (hn : i < nL) (hq : (i, Value.ref x) :: L.filter (fun q => !(q.1 == i) && !(q.1 + 1 == i && q.2.category == 2)) = L') (k : WW K Γ n σ (pc + 2) L' S) : WW K Γ n σ pc L (.ref x :: S) := by
  obtain ⟨p, l, e, R, s, m, args, below, meth, c, Q, c0, s0⟩ := Γ
  obtain ⟨hx, hb, hml, hown, hts, hK, hR, hlk, hz, hst, hU, hN⟩ := G
  intro H locs ls hl hP hD hS
  exact lv_astore hx hb d hl (hml ▸ hn) hq (fun ls' hl' => k H locs ls' hl' hP hD hS)
theorem ww_lload_n (q : Nat) {i : Nat} {k4 : Fin 4} {x : Int64} (G : Good K Γ cc own nL fr lo) (d : decode cc pc = .ok (.lload_n k4, 1)) (hi : (k4 : Nat) = i) (hq : L[q]? = some (i, .long x)) (k : WW K Γ n σ (pc + 1) L (.long x :: S)) : WW K Γ n σ pc L S := by
  obtain ⟨p, l, e, R, s, m, args, below, meth, c, Q, c0, s0⟩ := Γ
  obtain ⟨hx, hb, hml, hown, hts, hK, hR, hlk, hz, hst, hU, hN⟩ := G
  intro H locs ls hl hP hD hS
  exact lv_lload_n hx hb d hi (lv_at hl q hq) (k H locs ls hl hP hD hS)
theorem ww_lload (q : Nat) {i : Nat} {x : Int64} (G : Good K Γ cc own nL fr lo) (d : decode cc pc = .ok (.lload i, 2)) (hq : L[q]? = some (i, .long x)) (k : WW K Γ n σ (pc + 2) L (.long x :: S)) : WW K Γ n σ pc L S := by
  obtain ⟨p, l, e, R, s, m, args, below, meth, c, Q, c0, s0⟩ := Γ
  obtain ⟨hx, hb, hml, hown, hts, hK, hR, hlk, hz, hst, hU, hN⟩ := G
  intro H locs ls hl hP hD hS
  exact lv_lload hx hb d (lv_at hl q hq) (k H locs ls hl hP hD hS)
theorem ww_iinc (q : Nat) {L' : List (Nat × Value)} {i : Nat} {z : Int} {x w : Int32} (G : Good K Γ cc own nL fr lo) (d : decode cc pc = .ok (.iinc i z, 3)) (hq : L[q]? = some (i, .int x)) (hw : Int32.ofInt z = w) (hn : i < nL) (hf : (i, Value.int (x + w)) :: L.filter (fun q => !(q.1 == i) && !(q.1 + 1 == i && q.2.category == 2)) = L') (k : WW K Γ n σ (pc + 3) L' S) : WW K Γ n σ pc L S := by
  obtain ⟨p, l, e, R, s, m, args, below, meth, c, Q, c0, s0⟩ := Γ
  obtain ⟨hx, hb, hml, hown, hts, hK, hR, hlk, hz, hst, hU, hN⟩ := G
  intro H locs ls hl hP hD hS
  exact lv_iinc hx hb d hl hq (by rw [hw]) (hml ▸ hn) hf (fun ls' hl' => k H locs ls' hl' hP hD hS)
theorem ww_iincW (q : Nat) {L' : List (Nat × Value)} {i : Nat} {z : Int} {x w : Int32} (G : Good K Γ cc own nL fr lo) (d : decode cc pc = .ok (.iinc i z, 6)) (hq : L[q]? = some (i, .int x)) (hw : Int32.ofInt z = w) (hn : i < nL) (hf : (i, Value.int (x + w)) :: L.filter (fun q => !(q.1 == i) && !(q.1 + 1 == i && q.2.category == 2)) = L') (k : WW K Γ n σ (pc + 6) L' S) : WW K Γ n σ pc L S := by
  obtain ⟨p, l, e, R, s, m, args, below, meth, c, Q, c0, s0⟩ := Γ
  obtain ⟨hx, hb, hml, hown, hts, hK, hR, hlk, hz, hst, hU, hN⟩ := G
  intro H locs ls hl hP hD hS
  exact lv_iincW hx hb d hl hq (by rw [hw]) (hml ▸ hn) hf (fun ls' hl' => k H locs ls' hl' hP hD hS)
theorem ww_sub {L' : List (Nat × Value)} (ks : List Nat) (hl' : lv_pick L ks = L') (k : WW K Γ n σ pc L' S) : WW K Γ n σ pc L S := by
  obtain ⟨p, l, e, R, s, m, args, below, meth, c, Q, c0, s0⟩ := Γ
  intro H locs ls hl hP hD hS
  exact k H locs ls (lv_sub hl ks hl') hP hD hS
theorem ww_goto {off : Int} {tgt : Nat} (G : Good K Γ cc own nL fr lo) (d : decode cc pc = .ok (.goto off, 3)) (ht : (pc : Int) + off = (tgt : Int)) (k : WW K Γ n σ tgt L S) : WW K Γ n σ pc L S := by
  obtain ⟨p, l, e, R, s, m, args, below, meth, c, Q, c0, s0⟩ := Γ
  obtain ⟨hx, hb, hml, hown, hts, hK, hR, hlk, hz, hst, hU, hN⟩ := G
  intro H locs ls hl hP hD hS
  exact lv_goto hx hb d ht (k H locs ls hl hP hD hS)
theorem ww_icmpeq {x y : Int32} {off : Int} {tgt : Nat} {A B : RR} (G : Good K Γ cc own nL fr lo) (d : decode cc pc = .ok (.if_icmp .eq off, 3)) (ht : (pc : Int) + off = (tgt : Int)) (h : (if x = y then A else B) = some fin) (kt : A = some fin → WW K Γ n σ tgt L S) (kf : B = some fin → WW K Γ n σ (pc + 3) L S) : WW K Γ n σ pc L (.int y :: .int x :: S) := by
  obtain ⟨p, l, e, R, s, m, args, below, meth, c, Q, c0, s0⟩ := Γ
  obtain ⟨hx, hb, hml, hown, hts, hK, hR, hlk, hz, hst, hU, hN⟩ := G
  intro H locs ls hl hP hD hS
  exact lv_icmp_eq hx hb d ht (fun hc => kt (by rw [if_pos hc] at h; exact h) H locs ls hl hP hD hS) (fun hc => kf (by rw [if_neg hc] at h; exact h) H locs ls hl hP hD hS)
theorem ww_icmpne {x y : Int32} {off : Int} {tgt : Nat} {A B : RR} (G : Good K Γ cc own nL fr lo) (d : decode cc pc = .ok (.if_icmp .ne off, 3)) (ht : (pc : Int) + off = (tgt : Int)) (h : (if ¬ x = y then A else B) = some fin) (kt : A = some fin → WW K Γ n σ tgt L S) (kf : B = some fin → WW K Γ n σ (pc + 3) L S) : WW K Γ n σ pc L (.int y :: .int x :: S) := by
  obtain ⟨p, l, e, R, s, m, args, below, meth, c, Q, c0, s0⟩ := Γ
  obtain ⟨hx, hb, hml, hown, hts, hK, hR, hlk, hz, hst, hU, hN⟩ := G
  intro H locs ls hl hP hD hS
  exact lv_icmp_ne hx hb d ht (fun hc => kt (by rw [if_pos hc] at h; exact h) H locs ls hl hP hD hS) (fun hc => kf (by rw [if_neg (fun z => z hc)] at h; exact h) H locs ls hl hP hD hS)
theorem ww_icmplt {x y : Int32} {off : Int} {tgt : Nat} {A B : RR} (G : Good K Γ cc own nL fr lo) (d : decode cc pc = .ok (.if_icmp .lt off, 3)) (ht : (pc : Int) + off = (tgt : Int)) (h : (if x < y then A else B) = some fin) (kt : A = some fin → WW K Γ n σ tgt L S) (kf : B = some fin → WW K Γ n σ (pc + 3) L S) : WW K Γ n σ pc L (.int y :: .int x :: S) := by
  obtain ⟨p, l, e, R, s, m, args, below, meth, c, Q, c0, s0⟩ := Γ
  obtain ⟨hx, hb, hml, hown, hts, hK, hR, hlk, hz, hst, hU, hN⟩ := G
  intro H locs ls hl hP hD hS
  exact lv_icmp_lt hx hb d ht (fun hc => kt (by rw [if_pos hc] at h; exact h) H locs ls hl hP hD hS) (fun hc => kf (by rw [if_neg hc] at h; exact h) H locs ls hl hP hD hS)
theorem ww_icmpge {x y : Int32} {off : Int} {tgt : Nat} {A B : RR} (G : Good K Γ cc own nL fr lo) (d : decode cc pc = .ok (.if_icmp .ge off, 3)) (ht : (pc : Int) + off = (tgt : Int)) (h : (if y ≤ x then A else B) = some fin) (kt : A = some fin → WW K Γ n σ tgt L S) (kf : B = some fin → WW K Γ n σ (pc + 3) L S) : WW K Γ n σ pc L (.int y :: .int x :: S) := by
  obtain ⟨p, l, e, R, s, m, args, below, meth, c, Q, c0, s0⟩ := Γ
  obtain ⟨hx, hb, hml, hown, hts, hK, hR, hlk, hz, hst, hU, hN⟩ := G
  intro H locs ls hl hP hD hS
  exact lv_icmp_ge hx hb d ht (fun hc => kt (by rw [if_pos hc] at h; exact h) H locs ls hl hP hD hS) (fun hc => kf (by rw [if_neg hc] at h; exact h) H locs ls hl hP hD hS)
theorem ww_icmpgt {x y : Int32} {off : Int} {tgt : Nat} {A B : RR} (G : Good K Γ cc own nL fr lo) (d : decode cc pc = .ok (.if_icmp .gt off, 3)) (ht : (pc : Int) + off = (tgt : Int)) (h : (if y < x then A else B) = some fin) (kt : A = some fin → WW K Γ n σ tgt L S) (kf : B = some fin → WW K Γ n σ (pc + 3) L S) : WW K Γ n σ pc L (.int y :: .int x :: S) := by
  obtain ⟨p, l, e, R, s, m, args, below, meth, c, Q, c0, s0⟩ := Γ
  obtain ⟨hx, hb, hml, hown, hts, hK, hR, hlk, hz, hst, hU, hN⟩ := G
  intro H locs ls hl hP hD hS
  exact lv_icmp_gt hx hb d ht (fun hc => kt (by rw [if_pos hc] at h; exact h) H locs ls hl hP hD hS) (fun hc => kf (by rw [if_neg hc] at h; exact h) H locs ls hl hP hD hS)
theorem ww_icmple {x y : Int32} {off : Int} {tgt : Nat} {A B : RR} (G : Good K Γ cc own nL fr lo) (d : decode cc pc = .ok (.if_icmp .le off, 3)) (ht : (pc : Int) + off = (tgt : Int)) (h : (if x ≤ y then A else B) = some fin) (kt : A = some fin → WW K Γ n σ tgt L S) (kf : B = some fin → WW K Γ n σ (pc + 3) L S) : WW K Γ n σ pc L (.int y :: .int x :: S) := by
  obtain ⟨p, l, e, R, s, m, args, below, meth, c, Q, c0, s0⟩ := Γ
  obtain ⟨hx, hb, hml, hown, hts, hK, hR, hlk, hz, hst, hU, hN⟩ := G
  intro H locs ls hl hP hD hS
  exact lv_icmp_le hx hb d ht (fun hc => kt (by rw [if_pos hc] at h; exact h) H locs ls hl hP hD hS) (fun hc => kf (by rw [if_neg hc] at h; exact h) H locs ls hl hP hD hS)
theorem ww_ifeq {x : Int32} {off : Int} {tgt : Nat} {A B : RR} (G : Good K Γ cc own nL fr lo) (d : decode cc pc = .ok (.ifCond .eq off, 3)) (ht : (pc : Int) + off = (tgt : Int)) (h : (if x = 0 then A else B) = some fin) (kt : A = some fin → WW K Γ n σ tgt L S) (kf : B = some fin → WW K Γ n σ (pc + 3) L S) : WW K Γ n σ pc L (.int x :: S) := by
  obtain ⟨p, l, e, R, s, m, args, below, meth, c, Q, c0, s0⟩ := Γ
  obtain ⟨hx, hb, hml, hown, hts, hK, hR, hlk, hz, hst, hU, hN⟩ := G
  intro H locs ls hl hP hD hS
  exact lv_if_eq hx hb d ht (fun hc => kt (by rw [if_pos hc] at h; exact h) H locs ls hl hP hD hS) (fun hc => kf (by rw [if_neg hc] at h; exact h) H locs ls hl hP hD hS)
theorem ww_ifne {x : Int32} {off : Int} {tgt : Nat} {A B : RR} (G : Good K Γ cc own nL fr lo) (d : decode cc pc = .ok (.ifCond .ne off, 3)) (ht : (pc : Int) + off = (tgt : Int)) (h : (if ¬ x = 0 then A else B) = some fin) (kt : A = some fin → WW K Γ n σ tgt L S) (kf : B = some fin → WW K Γ n σ (pc + 3) L S) : WW K Γ n σ pc L (.int x :: S) := by
  obtain ⟨p, l, e, R, s, m, args, below, meth, c, Q, c0, s0⟩ := Γ
  obtain ⟨hx, hb, hml, hown, hts, hK, hR, hlk, hz, hst, hU, hN⟩ := G
  intro H locs ls hl hP hD hS
  exact lv_if_ne hx hb d ht (fun hc => kt (by rw [if_pos hc] at h; exact h) H locs ls hl hP hD hS) (fun hc => kf (by rw [if_neg (fun z => z hc)] at h; exact h) H locs ls hl hP hD hS)
theorem ww_iflt {x : Int32} {off : Int} {tgt : Nat} {A B : RR} (G : Good K Γ cc own nL fr lo) (d : decode cc pc = .ok (.ifCond .lt off, 3)) (ht : (pc : Int) + off = (tgt : Int)) (h : (if x < 0 then A else B) = some fin) (kt : A = some fin → WW K Γ n σ tgt L S) (kf : B = some fin → WW K Γ n σ (pc + 3) L S) : WW K Γ n σ pc L (.int x :: S) := by
  obtain ⟨p, l, e, R, s, m, args, below, meth, c, Q, c0, s0⟩ := Γ
  obtain ⟨hx, hb, hml, hown, hts, hK, hR, hlk, hz, hst, hU, hN⟩ := G
  intro H locs ls hl hP hD hS
  exact lv_if_lt hx hb d ht (fun hc => kt (by rw [if_pos hc] at h; exact h) H locs ls hl hP hD hS) (fun hc => kf (by rw [if_neg hc] at h; exact h) H locs ls hl hP hD hS)
theorem ww_ifge {x : Int32} {off : Int} {tgt : Nat} {A B : RR} (G : Good K Γ cc own nL fr lo) (d : decode cc pc = .ok (.ifCond .ge off, 3)) (ht : (pc : Int) + off = (tgt : Int)) (h : (if 0 ≤ x then A else B) = some fin) (kt : A = some fin → WW K Γ n σ tgt L S) (kf : B = some fin → WW K Γ n σ (pc + 3) L S) : WW K Γ n σ pc L (.int x :: S) := by
  obtain ⟨p, l, e, R, s, m, args, below, meth, c, Q, c0, s0⟩ := Γ
  obtain ⟨hx, hb, hml, hown, hts, hK, hR, hlk, hz, hst, hU, hN⟩ := G
  intro H locs ls hl hP hD hS
  exact lv_if_ge hx hb d ht (fun hc => kt (by rw [if_pos hc] at h; exact h) H locs ls hl hP hD hS) (fun hc => kf (by rw [if_neg hc] at h; exact h) H locs ls hl hP hD hS)
theorem ww_ifgt {x : Int32} {off : Int} {tgt : Nat} {A B : RR} (G : Good K Γ cc own nL fr lo) (d : decode cc pc = .ok (.ifCond .gt off, 3)) (ht : (pc : Int) + off = (tgt : Int)) (h : (if 0 < x then A else B) = some fin) (kt : A = some fin → WW K Γ n σ tgt L S) (kf : B = some fin → WW K Γ n σ (pc + 3) L S) : WW K Γ n σ pc L (.int x :: S) := by
  obtain ⟨p, l, e, R, s, m, args, below, meth, c, Q, c0, s0⟩ := Γ
  obtain ⟨hx, hb, hml, hown, hts, hK, hR, hlk, hz, hst, hU, hN⟩ := G
  intro H locs ls hl hP hD hS
  exact lv_if_gt hx hb d ht (fun hc => kt (by rw [if_pos hc] at h; exact h) H locs ls hl hP hD hS) (fun hc => kf (by rw [if_neg hc] at h; exact h) H locs ls hl hP hD hS)
theorem ww_ifle {x : Int32} {off : Int} {tgt : Nat} {A B : RR} (G : Good K Γ cc own nL fr lo) (d : decode cc pc = .ok (.ifCond .le off, 3)) (ht : (pc : Int) + off = (tgt : Int)) (h : (if x ≤ 0 then A else B) = some fin) (kt : A = some fin → WW K Γ n σ tgt L S) (kf : B = some fin → WW K Γ n σ (pc + 3) L S) : WW K Γ n σ pc L (.int x :: S) := by
  obtain ⟨p, l, e, R, s, m, args, below, meth, c, Q, c0, s0⟩ := Γ
  obtain ⟨hx, hb, hml, hown, hts, hK, hR, hlk, hz, hst, hU, hN⟩ := G
  intro H locs ls hl hP hD hS
  exact lv_if_le hx hb d ht (fun hc => kt (by rw [if_pos hc] at h; exact h) H locs ls hl hP hD hS) (fun hc => kf (by rw [if_neg hc] at h; exact h) H locs ls hl hP hD hS)
theorem ww_jn {α : Type} {Rr : α → Mem → RR} {B : (α → Mem → RR) → RR} {goal : Prop} (h : mm_jn Rr B = some fin) (P : α → Mem → Prop) (J : ∀ x s, Rr x s = some fin → P x s) (k : ∀ r : α → Mem → RR, (∀ x s, r x s = some fin → P x s) → B r = some fin → goal) : goal := k Rr J h
theorem ww_tab {x w : Int32} {A B : RR} {goal : Prop} (h : (if x = w then A else B) = some fin) (kt : x = w → A = some fin → goal) (kf : ¬ x = w → B = some fin → goal) : goal := by
  by_cases hc : x = w
  · rw [if_pos hc] at h; exact kt hc h
  · rw [if_neg hc] at h; exact kf hc h
theorem ww_tabIn {dflt lo9 hi : Int} {offs : Array Int} {len : Nat} {x w : Int32} {off : Int} {tgt : Nat} (G : Good K Γ cc own nL fr lo) (d : decode cc pc = .ok (.tableswitch dflt lo9 hi offs, len)) (hw : x = w) (h1 : ¬ w.toInt < lo9) (h2 : ¬ hi < w.toInt) (ho : offs[(w.toInt - lo9).toNat]? = some off) (ht : (pc : Int) + off = (tgt : Int)) (k : WW K Γ n σ tgt L S) : WW K Γ n σ pc L (.int x :: S) := by
  subst hw
  obtain ⟨p, l, e, R, s, m, args, below, meth, c, Q, c0, s0⟩ := Γ
  obtain ⟨hx, hb, hml, hown, hts, hK, hR, hlk, hz, hst, hU, hN⟩ := G
  intro H locs ls hl hP hD hS
  exact lv_tableIn hx hb d h1 h2 ho ht (k H locs ls hl hP hD hS)
theorem ww_tabOut {dflt lo9 hi : Int} {offs : Array Int} {len : Nat} {x : Int32} {tgt : Nat} (G : Good K Γ cc own nL fr lo) (d : decode cc pc = .ok (.tableswitch dflt lo9 hi offs, len)) (h1 : x.toInt < lo9 ∨ hi < x.toInt) (ht : (pc : Int) + dflt = (tgt : Int)) (k : WW K Γ n σ tgt L S) : WW K Γ n σ pc L (.int x :: S) := by
  obtain ⟨p, l, e, R, s, m, args, below, meth, c, Q, c0, s0⟩ := Γ
  obtain ⟨hx, hb, hml, hown, hts, hK, hR, hlk, hz, hst, hU, hN⟩ := G
  intro H locs ls hl hP hD hS
  exact lv_tableOut hx hb d h1 ht (k H locs ls hl hP hD hS)
theorem tab_out3 {x : Int32} (h0 : ¬ x = (0 : Int32)) (h1 : ¬ x = (1 : Int32)) (h2 : ¬ x = (2 : Int32)) : x.toInt < 0 ∨ 2 < x.toInt := by
  have q0 : x.toInt ≠ 0 := fun z => h0 (Int32.toInt_inj.mp (by rw [z]; decide))
  have q1 : x.toInt ≠ 1 := fun z => h1 (Int32.toInt_inj.mp (by rw [z]; decide))
  have q2 : x.toInt ≠ 2 := fun z => h2 (Int32.toInt_inj.mp (by rw [z]; decide))
  omega
theorem tab_out20 {x : Int32} (h0 : ¬ x = (0 : Int32)) (h1 : ¬ x = (1 : Int32)) (h2 : ¬ x = (2 : Int32)) (h3 : ¬ x = (3 : Int32)) (h4 : ¬ x = (4 : Int32)) (h5 : ¬ x = (5 : Int32)) (h6 : ¬ x = (6 : Int32)) (h7 : ¬ x = (7 : Int32)) (h8 : ¬ x = (8 : Int32)) (h9 : ¬ x = (9 : Int32)) (h10 : ¬ x = (10 : Int32)) (h11 : ¬ x = (11 : Int32)) (h12 : ¬ x = (12 : Int32)) (h13 : ¬ x = (13 : Int32)) (h14 : ¬ x = (14 : Int32)) (h15 : ¬ x = (15 : Int32)) (h16 : ¬ x = (16 : Int32)) (h17 : ¬ x = (17 : Int32)) (h18 : ¬ x = (18 : Int32)) (h19 : ¬ x = (19 : Int32)) : x.toInt < 0 ∨ 19 < x.toInt := by
  have q0 : x.toInt ≠ 0 := fun z => h0 (Int32.toInt_inj.mp (by rw [z]; decide))
  have q1 : x.toInt ≠ 1 := fun z => h1 (Int32.toInt_inj.mp (by rw [z]; decide))
  have q2 : x.toInt ≠ 2 := fun z => h2 (Int32.toInt_inj.mp (by rw [z]; decide))
  have q3 : x.toInt ≠ 3 := fun z => h3 (Int32.toInt_inj.mp (by rw [z]; decide))
  have q4 : x.toInt ≠ 4 := fun z => h4 (Int32.toInt_inj.mp (by rw [z]; decide))
  have q5 : x.toInt ≠ 5 := fun z => h5 (Int32.toInt_inj.mp (by rw [z]; decide))
  have q6 : x.toInt ≠ 6 := fun z => h6 (Int32.toInt_inj.mp (by rw [z]; decide))
  have q7 : x.toInt ≠ 7 := fun z => h7 (Int32.toInt_inj.mp (by rw [z]; decide))
  have q8 : x.toInt ≠ 8 := fun z => h8 (Int32.toInt_inj.mp (by rw [z]; decide))
  have q9 : x.toInt ≠ 9 := fun z => h9 (Int32.toInt_inj.mp (by rw [z]; decide))
  have q10 : x.toInt ≠ 10 := fun z => h10 (Int32.toInt_inj.mp (by rw [z]; decide))
  have q11 : x.toInt ≠ 11 := fun z => h11 (Int32.toInt_inj.mp (by rw [z]; decide))
  have q12 : x.toInt ≠ 12 := fun z => h12 (Int32.toInt_inj.mp (by rw [z]; decide))
  have q13 : x.toInt ≠ 13 := fun z => h13 (Int32.toInt_inj.mp (by rw [z]; decide))
  have q14 : x.toInt ≠ 14 := fun z => h14 (Int32.toInt_inj.mp (by rw [z]; decide))
  have q15 : x.toInt ≠ 15 := fun z => h15 (Int32.toInt_inj.mp (by rw [z]; decide))
  have q16 : x.toInt ≠ 16 := fun z => h16 (Int32.toInt_inj.mp (by rw [z]; decide))
  have q17 : x.toInt ≠ 17 := fun z => h17 (Int32.toInt_inj.mp (by rw [z]; decide))
  have q18 : x.toInt ≠ 18 := fun z => h18 (Int32.toInt_inj.mp (by rw [z]; decide))
  have q19 : x.toInt ≠ 19 := fun z => h19 (Int32.toInt_inj.mp (by rw [z]; decide))
  omega
end VRows

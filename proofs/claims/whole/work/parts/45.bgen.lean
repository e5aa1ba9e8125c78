section VRowsB
variable {K : KK} {Γ : Cx} {cc : ByteArray} {own : String} {nL fr lo : Nat} {σ : Mem} {pc : Nat} {L : List (Nat × Value)} {S : List Value} {fin : Oc × Mem}
theorem wb_iadd {x y : Int32} (G : GB K Γ cc own nL fr lo) (d : decode cc pc = .ok (.iadd, 1))  (k : WB K Γ σ (pc + 1) L (.int (x + y) :: S)) : WB K Γ σ pc L (.int y :: .int x :: S) := by
  obtain ⟨p, l, e, R, s, m, args, below, meth, c, Q, c0, s0⟩ := Γ
  obtain ⟨hx, hb, hml, hown, hts, hK, hR, hlk, hz, hst, hU, hN⟩ := G
  intro H locs ls hl hP hD hS
  exact lv_iadd hx hb d (k H locs ls hl hP hD hS)
theorem wb_isub {x y : Int32} (G : GB K Γ cc own nL fr lo) (d : decode cc pc = .ok (.isub, 1))  (k : WB K Γ σ (pc + 1) L (.int (x - y) :: S)) : WB K Γ σ pc L (.int y :: .int x :: S) := by
  obtain ⟨p, l, e, R, s, m, args, below, meth, c, Q, c0, s0⟩ := Γ
  obtain ⟨hx, hb, hml, hown, hts, hK, hR, hlk, hz, hst, hU, hN⟩ := G
  intro H locs ls hl hP hD hS
  exact lv_isub hx hb d (k H locs ls hl hP hD hS)
theorem wb_imul {x y : Int32} (G : GB K Γ cc own nL fr lo) (d : decode cc pc = .ok (.imul, 1))  (k : WB K Γ σ (pc + 1) L (.int (x * y) :: S)) : WB K Γ σ pc L (.int y :: .int x :: S) := by
  obtain ⟨p, l, e, R, s, m, args, below, meth, c, Q, c0, s0⟩ := Γ
  obtain ⟨hx, hb, hml, hown, hts, hK, hR, hlk, hz, hst, hU, hN⟩ := G
  intro H locs ls hl hP hD hS
  exact lv_imul hx hb d (k H locs ls hl hP hD hS)
theorem wb_iand {x y : Int32} (G : GB K Γ cc own nL fr lo) (d : decode cc pc = .ok (.iand, 1))  (k : WB K Γ σ (pc + 1) L (.int (x &&& y) :: S)) : WB K Γ σ pc L (.int y :: .int x :: S) := by
  obtain ⟨p, l, e, R, s, m, args, below, meth, c, Q, c0, s0⟩ := Γ
  obtain ⟨hx, hb, hml, hown, hts, hK, hR, hlk, hz, hst, hU, hN⟩ := G
  intro H locs ls hl hP hD hS
  exact lv_iand hx hb d (k H locs ls hl hP hD hS)
theorem wb_ior {x y : Int32} (G : GB K Γ cc own nL fr lo) (d : decode cc pc = .ok (.ior, 1))  (k : WB K Γ σ (pc + 1) L (.int (x ||| y) :: S)) : WB K Γ σ pc L (.int y :: .int x :: S) := by
  obtain ⟨p, l, e, R, s, m, args, below, meth, c, Q, c0, s0⟩ := Γ
  obtain ⟨hx, hb, hml, hown, hts, hK, hR, hlk, hz, hst, hU, hN⟩ := G
  intro H locs ls hl hP hD hS
  exact lv_ior hx hb d (k H locs ls hl hP hD hS)
theorem wb_ixor {x y : Int32} (G : GB K Γ cc own nL fr lo) (d : decode cc pc = .ok (.ixor, 1))  (k : WB K Γ σ (pc + 1) L (.int (x ^^^ y) :: S)) : WB K Γ σ pc L (.int y :: .int x :: S) := by
  obtain ⟨p, l, e, R, s, m, args, below, meth, c, Q, c0, s0⟩ := Γ
  obtain ⟨hx, hb, hml, hown, hts, hK, hR, hlk, hz, hst, hU, hN⟩ := G
  intro H locs ls hl hP hD hS
  exact lv_ixor hx hb d (k H locs ls hl hP hD hS)
theorem wb_land {x y : Int64} (G : GB K Γ cc own nL fr lo) (d : decode cc pc = .ok (.land, 1))  (k : WB K Γ σ (pc + 1) L (.long (x &&& y) :: S)) : WB K Γ σ pc L (.long y :: .long x :: S) := by
  obtain ⟨p, l, e, R, s, m, args, below, meth, c, Q, c0, s0⟩ := Γ
  obtain ⟨hx, hb, hml, hown, hts, hK, hR, hlk, hz, hst, hU, hN⟩ := G
  intro H locs ls hl hP hD hS
  exact lv_land hx hb d (k H locs ls hl hP hD hS)
theorem wb_lxor {x y : Int64} (G : GB K Γ cc own nL fr lo) (d : decode cc pc = .ok (.lxor, 1))  (k : WB K Γ σ (pc + 1) L (.long (x ^^^ y) :: S)) : WB K Γ σ pc L (.long y :: .long x :: S) := by
  obtain ⟨p, l, e, R, s, m, args, below, meth, c, Q, c0, s0⟩ := Γ
  obtain ⟨hx, hb, hml, hown, hts, hK, hR, hlk, hz, hst, hU, hN⟩ := G
  intro H locs ls hl hP hD hS
  exact lv_lxor hx hb d (k H locs ls hl hP hD hS)
theorem wb_ishl {x y : Int32} (G : GB K Γ cc own nL fr lo) (d : decode cc pc = .ok (.ishl, 1))  (k : WB K Γ σ (pc + 1) L (.int (mm_ishl x y) :: S)) : WB K Γ σ pc L (.int y :: .int x :: S) := by
  obtain ⟨p, l, e, R, s, m, args, below, meth, c, Q, c0, s0⟩ := Γ
  obtain ⟨hx, hb, hml, hown, hts, hK, hR, hlk, hz, hst, hU, hN⟩ := G
  intro H locs ls hl hP hD hS
  exact lv_ishl hx hb d (k H locs ls hl hP hD hS)
theorem wb_ishr {x y : Int32} (G : GB K Γ cc own nL fr lo) (d : decode cc pc = .ok (.ishr, 1))  (k : WB K Γ σ (pc + 1) L (.int (mm_ishr x y) :: S)) : WB K Γ σ pc L (.int y :: .int x :: S) := by
  obtain ⟨p, l, e, R, s, m, args, below, meth, c, Q, c0, s0⟩ := Γ
  obtain ⟨hx, hb, hml, hown, hts, hK, hR, hlk, hz, hst, hU, hN⟩ := G
  intro H locs ls hl hP hD hS
  exact lv_ishr hx hb d (k H locs ls hl hP hD hS)
theorem wb_iushr {x y : Int32} (G : GB K Γ cc own nL fr lo) (d : decode cc pc = .ok (.iushr, 1))  (k : WB K Γ σ (pc + 1) L (.int (mm_iushr x y) :: S)) : WB K Γ σ pc L (.int y :: .int x :: S) := by
  obtain ⟨p, l, e, R, s, m, args, below, meth, c, Q, c0, s0⟩ := Γ
  obtain ⟨hx, hb, hml, hown, hts, hK, hR, hlk, hz, hst, hU, hN⟩ := G
  intro H locs ls hl hP hD hS
  exact lv_iushr hx hb d rfl (k H locs ls hl hP hD hS)
theorem wb_lshl {x : Int64} {y : Int32} (G : GB K Γ cc own nL fr lo) (d : decode cc pc = .ok (.lshl, 1))  (k : WB K Γ σ (pc + 1) L (.long (mm_lshl x y) :: S)) : WB K Γ σ pc L (.int y :: .long x :: S) := by
  obtain ⟨p, l, e, R, s, m, args, below, meth, c, Q, c0, s0⟩ := Γ
  obtain ⟨hx, hb, hml, hown, hts, hK, hR, hlk, hz, hst, hU, hN⟩ := G
  intro H locs ls hl hP hD hS
  exact lv_lshl hx hb d rfl (k H locs ls hl hP hD hS)
theorem wb_lushr {x : Int64} {y : Int32} (G : GB K Γ cc own nL fr lo) (d : decode cc pc = .ok (.lushr, 1))  (k : WB K Γ σ (pc + 1) L (.long (mm_lushr x y) :: S)) : WB K Γ σ pc L (.int y :: .long x :: S) := by
  obtain ⟨p, l, e, R, s, m, args, below, meth, c, Q, c0, s0⟩ := Γ
  obtain ⟨hx, hb, hml, hown, hts, hK, hR, hlk, hz, hst, hU, hN⟩ := G
  intro H locs ls hl hP hD hS
  exact lv_lushr hx hb d rfl (k H locs ls hl hP hD hS)
theorem wb_l2i {x : Int64} (G : GB K Γ cc own nL fr lo) (d : decode cc pc = .ok (.l2i, 1))  (k : WB K Γ σ (pc + 1) L (.int x.toInt32 :: S)) : WB K Γ σ pc L (.long x :: S) := by
  obtain ⟨p, l, e, R, s, m, args, below, meth, c, Q, c0, s0⟩ := Γ
  obtain ⟨hx, hb, hml, hown, hts, hK, hR, hlk, hz, hst, hU, hN⟩ := G
  intro H locs ls hl hP hD hS
  exact lv_l2i hx hb d rfl (k H locs ls hl hP hD hS)
theorem wb_i2l {x : Int32} (G : GB K Γ cc own nL fr lo) (d : decode cc pc = .ok (.i2l, 1))  (k : WB K Γ σ (pc + 1) L (.long x.toInt64 :: S)) : WB K Γ σ pc L (.int x :: S) := by
  obtain ⟨p, l, e, R, s, m, args, below, meth, c, Q, c0, s0⟩ := Γ
  obtain ⟨hx, hb, hml, hown, hts, hK, hR, hlk, hz, hst, hU, hN⟩ := G
  intro H locs ls hl hP hD hS
  exact lv_i2l hx hb d rfl (k H locs ls hl hP hD hS)
theorem wb_lcmp {x y : Int64} (G : GB K Γ cc own nL fr lo) (d : decode cc pc = .ok (.lcmp, 1))  (k : WB K Γ σ (pc + 1) L (.int (lg_cmp x y) :: S)) : WB K Γ σ pc L (.long y :: .long x :: S) := by
  obtain ⟨p, l, e, R, s, m, args, below, meth, c, Q, c0, s0⟩ := Γ
  obtain ⟨hx, hb, hml, hown, hts, hK, hR, hlk, hz, hst, hU, hN⟩ := G
  intro H locs ls hl hP hD hS
  exact W.lcmp hx hb d (k H locs ls hl hP hD hS)
theorem wb_idiv {x y : Int32} (G : GB K Γ cc own nL fr lo) (d : decode cc pc = .ok (.idiv, 1)) (hne : ¬ y = 0) (k : WB K Γ σ (pc + 1) L (.int (x / y) :: S)) : WB K Γ σ pc L (.int y :: .int x :: S) := by
  obtain ⟨p, l, e, R, s, m, args, below, meth, c, Q, c0, s0⟩ := Γ
  obtain ⟨hx, hb, hml, hown, hts, hK, hR, hlk, hz, hst, hU, hN⟩ := G
  intro H locs ls hl hP hD hS
  exact lv_idiv hx hb d hne (k H locs ls hl hP hD hS)
theorem wb_irem {x y : Int32} (G : GB K Γ cc own nL fr lo) (d : decode cc pc = .ok (.irem, 1)) (hne : ¬ y = 0) (k : WB K Γ σ (pc + 1) L (.int (mm_irem x y) :: S)) : WB K Γ σ pc L (.int y :: .int x :: S) := by
  obtain ⟨p, l, e, R, s, m, args, below, meth, c, Q, c0, s0⟩ := Γ
  obtain ⟨hx, hb, hml, hown, hts, hK, hR, hlk, hz, hst, hU, hN⟩ := G
  intro H locs ls hl hP hD hS
  exact lv_irem hx hb d hne (k H locs ls hl hP hD hS)
theorem wb_idivz {x y : Int32} {A : RR} (G : GB K Γ cc own nL fr lo) (d : decode cc pc = .ok (.idiv, 1)) (h : mm_nz y A = some fin) (k : A = some fin → WB K Γ σ (pc + 1) L (.int (x / y) :: S)) : WB K Γ σ pc L (.int y :: .int x :: S) := by
  by_cases hy : y = 0
  · rw [mm_nz, if_pos hy] at h; exact nomatch h
  · rw [mm_nz, if_neg hy] at h; exact wb_idiv G d hy (k h)
theorem wb_iremz {x y : Int32} {A : RR} (G : GB K Γ cc own nL fr lo) (d : decode cc pc = .ok (.irem, 1)) (h : mm_nz y A = some fin) (k : A = some fin → WB K Γ σ (pc + 1) L (.int (mm_irem x y) :: S)) : WB K Γ σ pc L (.int y :: .int x :: S) := by
  by_cases hy : y = 0
  · rw [mm_nz, if_pos hy] at h; exact nomatch h
  · rw [mm_nz, if_neg hy] at h; exact wb_irem G d hy (k h)
theorem wb_iconst {v : Int32} {q : Int} (G : GB K Γ cc own nL fr lo) (d : decode cc pc = .ok (.iconst q, 1)) (hv : Int32.ofInt q = v) (k : WB K Γ σ (pc + 1) L (.int v :: S)) : WB K Γ σ pc L (S) := by
  obtain ⟨p, l, e, R, s, m, args, below, meth, c, Q, c0, s0⟩ := Γ
  obtain ⟨hx, hb, hml, hown, hts, hK, hR, hlk, hz, hst, hU, hN⟩ := G
  intro H locs ls hl hP hD hS
  exact lv_iconst hx hb d hv (k H locs ls hl hP hD hS)
theorem wb_bipush {v : Int32} {q : Int} (G : GB K Γ cc own nL fr lo) (d : decode cc pc = .ok (.bipush q, 2)) (hv : (Int8.ofInt q).toInt32 = v) (k : WB K Γ σ (pc + 2) L (.int v :: S)) : WB K Γ σ pc L (S) := by
  obtain ⟨p, l, e, R, s, m, args, below, meth, c, Q, c0, s0⟩ := Γ
  obtain ⟨hx, hb, hml, hown, hts, hK, hR, hlk, hz, hst, hU, hN⟩ := G
  intro H locs ls hl hP hD hS
  exact lv_bipush hx hb d hv (k H locs ls hl hP hD hS)
theorem wb_sipush {v : Int32} {q : Int} (G : GB K Γ cc own nL fr lo) (d : decode cc pc = .ok (.sipush q, 3)) (hv : (Int16.ofInt q).toInt32 = v) (k : WB K Γ σ (pc + 3) L (.int v :: S)) : WB K Γ σ pc L (S) := by
  obtain ⟨p, l, e, R, s, m, args, below, meth, c, Q, c0, s0⟩ := Γ
  obtain ⟨hx, hb, hml, hown, hts, hK, hR, hlk, hz, hst, hU, hN⟩ := G
  intro H locs ls hl hP hD hS
  exact lv_sipush hx hb d hv (k H locs ls hl hP hD hS)
theorem wb_lconst {v : Int64} {q : Fin 2} (G : GB K Γ cc own nL fr lo) (d : decode cc pc = .ok (.lconst q, 1)) (hv : Int64.ofNat (q : Nat) = v) (k : WB K Γ σ (pc + 1) L (.long v :: S)) : WB K Γ σ pc L (S) := by
  obtain ⟨p, l, e, R, s, m, args, below, meth, c, Q, c0, s0⟩ := Γ
  obtain ⟨hx, hb, hml, hown, hts, hK, hR, hlk, hz, hst, hU, hN⟩ := G
  intro H locs ls hl hP hD hS
  exact lv_lconst hx hb d hv (k H locs ls hl hP hD hS)
theorem wb_ldc {v : Int32} {index : Nat} (G : GB K Γ cc own nL fr lo) (d : decode cc pc = .ok (.ldc index, 2)) (hw : Cond.constant own index v ∈ wAll) (k : WB K Γ σ (pc + 2) L (.int v :: S)) : WB K Γ σ pc L (S) := by
  obtain ⟨p, l, e, R, s, m, args, below, meth, c, Q, c0, s0⟩ := Γ
  obtain ⟨hx, hb, hml, hown, hts, hK, hR, hlk, hz, hst, hU, hN⟩ := G
  intro H locs ls hl hP hD hS
  exact lv_ldc hx hb hown (hts _ hw) d (k H locs ls hl hP hD hS)
theorem wb_ldc2 {v : Int64} {index : Nat} (G : GB K Γ cc own nL fr lo) (d : decode cc pc = .ok (.ldc2_w index, 3)) (hw : Cond.constantLong own index v ∈ wAll) (k : WB K Γ σ (pc + 3) L (.long v :: S)) : WB K Γ σ pc L (S) := by
  obtain ⟨p, l, e, R, s, m, args, below, meth, c, Q, c0, s0⟩ := Γ
  obtain ⟨hx, hb, hml, hown, hts, hK, hR, hlk, hz, hst, hU, hN⟩ := G
  intro H locs ls hl hP hD hS
  exact lv_ldc2 hx hb hown (hts _ hw) d (k H locs ls hl hP hD hS)
theorem wb_dup {v : Value} (G : GB K Γ cc own nL fr lo) (d : decode cc pc = .ok (.dup, 1)) (hv : v.category = 1) (k : WB K Γ σ (pc + 1) L (v :: v :: S)) : WB K Γ σ pc L (v :: S) := by
  obtain ⟨p, l, e, R, s, m, args, below, meth, c, Q, c0, s0⟩ := Γ
  obtain ⟨hx, hb, hml, hown, hts, hK, hR, hlk, hz, hst, hU, hN⟩ := G
  intro H locs ls hl hP hD hS
  exact lv_dup hx hb d hv (k H locs ls hl hP hD hS)
theorem wb_pop {v : Value} (G : GB K Γ cc own nL fr lo) (d : decode cc pc = .ok (.pop, 1)) (hv : v.category = 1) (k : WB K Γ σ (pc + 1) L (S)) : WB K Γ σ pc L (v :: S) := by
  obtain ⟨p, l, e, R, s, m, args, below, meth, c, Q, c0, s0⟩ := Γ
  obtain ⟨hx, hb, hml, hown, hts, hK, hR, hlk, hz, hst, hU, hN⟩ := G
  intro H locs ls hl hP hD hS
  exact lv_pop hx hb d hv (k H locs ls hl hP hD hS)
theorem wb_dup2 {v w : Value} (G : GB K Γ cc own nL fr lo) (d : decode cc pc = .ok (.dup2, 1)) (hv : v.category = 1) (hw : w.category = 1) (k : WB K Γ σ (pc + 1) L (v :: w :: v :: w :: S)) : WB K Γ σ pc L (v :: w :: S) := by
  obtain ⟨p, l, e, R, s, m, args, below, meth, c, Q, c0, s0⟩ := Γ
  obtain ⟨hx, hb, hml, hown, hts, hK, hR, hlk, hz, hst, hU, hN⟩ := G
  intro H locs ls hl hP hD hS
  exact lv_dup2_11 hx hb d hv hw (k H locs ls hl hP hD hS)
theorem wb_iload_n (q : Nat) {i : Nat} {k4 : Fin 4} {x : Int32} (G : GB K Γ cc own nL fr lo) (d : decode cc pc = .ok (.iload_n k4, 1)) (hi : (k4 : Nat) = i) (hq : L[q]? = some (i, .int x)) (k : WB K Γ σ (pc + 1) L (.int x :: S)) : WB K Γ σ pc L S := by
  obtain ⟨p, l, e, R, s, m, args, below, meth, c, Q, c0, s0⟩ := Γ
  obtain ⟨hx, hb, hml, hown, hts, hK, hR, hlk, hz, hst, hU, hN⟩ := G
  intro H locs ls hl hP hD hS
  exact lv_iload_n hx hb d hi (lv_at hl q hq) (k H locs ls hl hP hD hS)
theorem wb_iload (q : Nat) {i : Nat} {x : Int32} (G : GB K Γ cc own nL fr lo) (d : decode cc pc = .ok (.iload i, 2)) (hq : L[q]? = some (i, .int x)) (k : WB K Γ σ (pc + 2) L (.int x :: S)) : WB K Γ σ pc L S := by
  obtain ⟨p, l, e, R, s, m, args, below, meth, c, Q, c0, s0⟩ := Γ
  obtain ⟨hx, hb, hml, hown, hts, hK, hR, hlk, hz, hst, hU, hN⟩ := G
  intro H locs ls hl hP hD hS
  exact lv_iload hx hb d (lv_at hl q hq) (k H locs ls hl hP hD hS)
theorem wb_istore_n {L' : List (Nat × Value)} {i : Nat} {k4 : Fin 4} {x : Int32} (G : GB K Γ cc own nL fr lo) (d : decode cc pc = .ok (.istore_n k4, 1)) (hi : (k4 : Nat) = i) (hn : i < nL) (hq : (i, Value.int x) :: L.filter (fun q => !(q.1 == i) && !(q.1 + 1 == i && q.2.category == 2)) = L') (k : WB K Γ σ (pc + 1) L' S) : WB K Γ σ pc L (.int x :: S) := by
  obtain ⟨p, l, e, R, s, m, args, below, meth, c, Q, c0, s0⟩ := Γ
  obtain ⟨hx, hb, hml, hown, hts, hK, hR, hlk, hz, hst, hU, hN⟩ := G
  intro H locs ls hl hP hD hS
  exact lv_istore_n hx hb d hi hl (hml ▸ hn) hq (fun ls' hl' => k H locs ls' hl' hP hD hS)
theorem wb_istore {L' : List (Nat × Value)} {i : Nat} {x : Int32} (G : GB K Γ cc own nL fr lo) (d : decode cc pc = .ok (.istore i, 2)) (hn : i < nL) (hq : (i, Value.int x) :: L.filter (fun q => !(q.1 == i) && !(q.1 + 1 == i && q.2.category == 2)) = L') (k : WB K Γ σ (pc + 2) L' S) : WB K Γ σ pc L (.int x :: S) := by
  obtain ⟨p, l, e, R, s, m, args, below, meth, c, Q, c0, s0⟩ := Γ
  obtain ⟨hx, hb, hml, hown, hts, hK, hR, hlk, hz, hst, hU, hN⟩ := G
  intro H locs ls hl hP hD hS
  exact lv_istore hx hb d hl (hml ▸ hn) hq (fun ls' hl' => k H locs ls' hl' hP hD hS)
theorem wb_aload_n (q : Nat) {i : Nat} {k4 : Fin 4} {x : Nat} (G : GB K Γ cc own nL fr lo) (d : decode cc pc = .ok (.aload_n k4, 1)) (hi : (k4 : Nat) = i) (hq : L[q]? = some (i, .ref x)) (k : WB K Γ σ (pc + 1) L (.ref x :: S)) : WB K Γ σ pc L S := by
  obtain ⟨p, l, e, R, s, m, args, below, meth, c, Q, c0, s0⟩ := Γ
  obtain ⟨hx, hb, hml, hown, hts, hK, hR, hlk, hz, hst, hU, hN⟩ := G
  intro H locs ls hl hP hD hS
  exact lv_aload_n hx hb d hi (lv_at hl q hq) (k H locs ls hl hP hD hS)
theorem wb_aload (q : Nat) {i : Nat} {x : Nat} (G : GB K Γ cc own nL fr lo) (d : decode cc pc = .ok (.aload i, 2)) (hq : L[q]? = some (i, .ref x)) (k : WB K Γ σ (pc + 2) L (.ref x :: S)) : WB K Γ σ pc L S := by
  obtain ⟨p, l, e, R, s, m, args, below, meth, c, Q, c0, s0⟩ := Γ
  obtain ⟨hx, hb, hml, hown, hts, hK, hR, hlk, hz, hst, hU, hN⟩ := G
  intro H locs ls hl hP hD hS
  exact lv_aload hx hb d (lv_at hl q hq) (k H locs ls hl hP hD hS)
theorem wb_astore_n {L' : List (Nat × Value)} {i : Nat} {k4 : Fin 4} {x : Nat} (G : GB K Γ cc own nL fr lo) (d : decode cc pc = .ok (.astore_n k4, 1)) (hi : (k4 : Nat) = i) (hn : i < nL) (hq : (i, Value.ref x) :: L.filter (fun q => !(q.1 == i) && !(q.1 + 1 == i && q.2.category == 2)) = L') (k : WB K Γ σ (pc + 1) L' S) : WB K Γ σ pc L (.ref x :: S) := by
  obtain ⟨p, l, e, R, s, m, args, below, meth, c, Q, c0, s0⟩ := Γ
  obtain ⟨hx, hb, hml, hown, hts, hK, hR, hlk, hz, hst, hU, hN⟩ := G
  intro H locs ls hl hP hD hS
  exact lv_astore_n hx hb d hi hl (hml ▸ hn) hq (fun ls' hl' => k H locs ls' hl' hP hD hS)
theorem wb_astore {L' : List (Nat × Value)} {i : Nat} {x : Nat} (G : GB K Γ cc own nL fr lo) (d : decode cc pc = .ok (.astore i, 2)) (hn : i < nL) (hq : (i, Value.ref x) :: L.filter (fun q => !(q.1 == i) && !(q.1 + 1 == i && q.2.category == 2)) = L') (k : WB K Γ σ (pc + 2) L' S) : WB K Γ σ pc L (.ref x :: S) := by
  obtain ⟨p, l, e, R, s, m, args, below, meth, c, Q, c0, s0⟩ := Γ
  obtain ⟨hx, hb, hml, hown, hts, hK, hR, hlk, hz, hst, hU, hN⟩ := G
  intro H locs ls hl hP hD hS
  exact lv_astore hx hb d hl (hml ▸ hn) hq (fun ls' hl' => k H locs ls' hl' hP hD hS)
theorem wb_lload_n (q : Nat) {i : Nat} {k4 : Fin 4} {x : Int64} (G : GB K Γ cc own nL fr lo) (d : decode cc pc = .ok (.lload_n k4, 1)) (hi : (k4 : Nat) = i) (hq : L[q]? = some (i, .long x)) (k : WB K Γ σ (pc + 1) L (.long x :: S)) : WB K Γ σ pc L S := by
  obtain ⟨p, l, e, R, s, m, args, below, meth, c, Q, c0, s0⟩ := Γ
  obtain ⟨hx, hb, hml, hown, hts, hK, hR, hlk, hz, hst, hU, hN⟩ := G
  intro H locs ls hl hP hD hS
  exact lv_lload_n hx hb d hi (lv_at hl q hq) (k H locs ls hl hP hD hS)
theorem wb_lload (q : Nat) {i : Nat} {x : Int64} (G : GB K Γ cc own nL fr lo) (d : decode cc pc = .ok (.lload i, 2)) (hq : L[q]? = some (i, .long x)) (k : WB K Γ σ (pc + 2) L (.long x :: S)) : WB K Γ σ pc L S := by
  obtain ⟨p, l, e, R, s, m, args, below, meth, c, Q, c0, s0⟩ := Γ
  obtain ⟨hx, hb, hml, hown, hts, hK, hR, hlk, hz, hst, hU, hN⟩ := G
  intro H locs ls hl hP hD hS
  exact lv_lload hx hb d (lv_at hl q hq) (k H locs ls hl hP hD hS)
theorem wb_iinc (q : Nat) {L' : List (Nat × Value)} {i : Nat} {z : Int} {x w : Int32} (G : GB K Γ cc own nL fr lo) (d : decode cc pc = .ok (.iinc i z, 3)) (hq : L[q]? = some (i, .int x)) (hw : Int32.ofInt z = w) (hn : i < nL) (hf : (i, Value.int (x + w)) :: L.filter (fun q => !(q.1 == i) && !(q.1 + 1 == i && q.2.category == 2)) = L') (k : WB K Γ σ (pc + 3) L' S) : WB K Γ σ pc L S := by
  obtain ⟨p, l, e, R, s, m, args, below, meth, c, Q, c0, s0⟩ := Γ
  obtain ⟨hx, hb, hml, hown, hts, hK, hR, hlk, hz, hst, hU, hN⟩ := G
  intro H locs ls hl hP hD hS
  exact lv_iinc hx hb d hl hq (by rw [hw]) (hml ▸ hn) hf (fun ls' hl' => k H locs ls' hl' hP hD hS)
theorem wb_iincW (q : Nat) {L' : List (Nat × Value)} {i : Nat} {z : Int} {x w : Int32} (G : GB K Γ cc own nL fr lo) (d : decode cc pc = .ok (.iinc i z, 6)) (hq : L[q]? = some (i, .int x)) (hw : Int32.ofInt z = w) (hn : i < nL) (hf : (i, Value.int (x + w)) :: L.filter (fun q => !(q.1 == i) && !(q.1 + 1 == i && q.2.category == 2)) = L') (k : WB K Γ σ (pc + 6) L' S) : WB K Γ σ pc L S := by
  obtain ⟨p, l, e, R, s, m, args, below, meth, c, Q, c0, s0⟩ := Γ
  obtain ⟨hx, hb, hml, hown, hts, hK, hR, hlk, hz, hst, hU, hN⟩ := G
  intro H locs ls hl hP hD hS
  exact lv_iincW hx hb d hl hq (by rw [hw]) (hml ▸ hn) hf (fun ls' hl' => k H locs ls' hl' hP hD hS)
theorem wb_sub {L' : List (Nat × Value)} (ks : List Nat) (hl' : lv_pick L ks = L') (k : WB K Γ σ pc L' S) : WB K Γ σ pc L S := by
  obtain ⟨p, l, e, R, s, m, args, below, meth, c, Q, c0, s0⟩ := Γ
  intro H locs ls hl hP hD hS
  exact k H locs ls (lv_sub hl ks hl') hP hD hS
theorem wb_goto {off : Int} {tgt : Nat} (G : GB K Γ cc own nL fr lo) (d : decode cc pc = .ok (.goto off, 3)) (ht : (pc : Int) + off = (tgt : Int)) (k : WB K Γ σ tgt L S) : WB K Γ σ pc L S := by
  obtain ⟨p, l, e, R, s, m, args, below, meth, c, Q, c0, s0⟩ := Γ
  obtain ⟨hx, hb, hml, hown, hts, hK, hR, hlk, hz, hst, hU, hN⟩ := G
  intro H locs ls hl hP hD hS
  exact lv_goto hx hb d ht (k H locs ls hl hP hD hS)
theorem wb_icmpeq {x y : Int32} {off : Int} {tgt : Nat} {A B : RR} (G : GB K Γ cc own nL fr lo) (d : decode cc pc = .ok (.if_icmp .eq off, 3)) (ht : (pc : Int) + off = (tgt : Int)) (h : (if x = y then A else B) = some fin) (kt : A = some fin → WB K Γ σ tgt L S) (kf : B = some fin → WB K Γ σ (pc + 3) L S) : WB K Γ σ pc L (.int y :: .int x :: S) := by
  obtain ⟨p, l, e, R, s, m, args, below, meth, c, Q, c0, s0⟩ := Γ
  obtain ⟨hx, hb, hml, hown, hts, hK, hR, hlk, hz, hst, hU, hN⟩ := G
  intro H locs ls hl hP hD hS
  exact lv_icmp_eq hx hb d ht (fun hc => kt (by rw [if_pos hc] at h; exact h) H locs ls hl hP hD hS) (fun hc => kf (by rw [if_neg hc] at h; exact h) H locs ls hl hP hD hS)
theorem wb_icmpne {x y : Int32} {off : Int} {tgt : Nat} {A B : RR} (G : GB K Γ cc own nL fr lo) (d : decode cc pc = .ok (.if_icmp .ne off, 3)) (ht : (pc : Int) + off = (tgt : Int)) (h : (if ¬ x = y then A else B) = some fin) (kt : A = some fin → WB K Γ σ tgt L S) (kf : B = some fin → WB K Γ σ (pc + 3) L S) : WB K Γ σ pc L (.int y :: .int x :: S) := by
  obtain ⟨p, l, e, R, s, m, args, below, meth, c, Q, c0, s0⟩ := Γ
  obtain ⟨hx, hb, hml, hown, hts, hK, hR, hlk, hz, hst, hU, hN⟩ := G
  intro H locs ls hl hP hD hS
  exact lv_icmp_ne hx hb d ht (fun hc => kt (by rw [if_pos hc] at h; exact h) H locs ls hl hP hD hS) (fun hc => kf (by rw [if_neg (fun z => z hc)] at h; exact h) H locs ls hl hP hD hS)
theorem wb_icmplt {x y : Int32} {off : Int} {tgt : Nat} {A B : RR} (G : GB K Γ cc own nL fr lo) (d : decode cc pc = .ok (.if_icmp .lt off, 3)) (ht : (pc : Int) + off = (tgt : Int)) (h : (if x < y then A else B) = some fin) (kt : A = some fin → WB K Γ σ tgt L S) (kf : B = some fin → WB K Γ σ (pc + 3) L S) : WB K Γ σ pc L (.int y :: .int x :: S) := by
  obtain ⟨p, l, e, R, s, m, args, below, meth, c, Q, c0, s0⟩ := Γ
  obtain ⟨hx, hb, hml, hown, hts, hK, hR, hlk, hz, hst, hU, hN⟩ := G
  intro H locs ls hl hP hD hS
  exact lv_icmp_lt hx hb d ht (fun hc => kt (by rw [if_pos hc] at h; exact h) H locs ls hl hP hD hS) (fun hc => kf (by rw [if_neg hc] at h; exact h) H locs ls hl hP hD hS)
theorem wb_icmpge {x y : Int32} {off : Int} {tgt : Nat} {A B : RR} (G : GB K Γ cc own nL fr lo) (d : decode cc pc = .ok (.if_icmp .ge off, 3)) (ht : (pc : Int) + off = (tgt : Int)) (h : (if y ≤ x then A else B) = some fin) (kt : A = some fin → WB K Γ σ tgt L S) (kf : B = some fin → WB K Γ σ (pc + 3) L S) : WB K Γ σ pc L (.int y :: .int x :: S) := by
  obtain ⟨p, l, e, R, s, m, args, below, meth, c, Q, c0, s0⟩ := Γ
  obtain ⟨hx, hb, hml, hown, hts, hK, hR, hlk, hz, hst, hU, hN⟩ := G
  intro H locs ls hl hP hD hS
  exact lv_icmp_ge hx hb d ht (fun hc => kt (by rw [if_pos hc] at h; exact h) H locs ls hl hP hD hS) (fun hc => kf (by rw [if_neg hc] at h; exact h) H locs ls hl hP hD hS)
theorem wb_icmpgt {x y : Int32} {off : Int} {tgt : Nat} {A B : RR} (G : GB K Γ cc own nL fr lo) (d : decode cc pc = .ok (.if_icmp .gt off, 3)) (ht : (pc : Int) + off = (tgt : Int)) (h : (if y < x then A else B) = some fin) (kt : A = some fin → WB K Γ σ tgt L S) (kf : B = some fin → WB K Γ σ (pc + 3) L S) : WB K Γ σ pc L (.int y :: .int x :: S) := by
  obtain ⟨p, l, e, R, s, m, args, below, meth, c, Q, c0, s0⟩ := Γ
  obtain ⟨hx, hb, hml, hown, hts, hK, hR, hlk, hz, hst, hU, hN⟩ := G
  intro H locs ls hl hP hD hS
  exact lv_icmp_gt hx hb d ht (fun hc => kt (by rw [if_pos hc] at h; exact h) H locs ls hl hP hD hS) (fun hc => kf (by rw [if_neg hc] at h; exact h) H locs ls hl hP hD hS)
theorem wb_icmple {x y : Int32} {off : Int} {tgt : Nat} {A B : RR} (G : GB K Γ cc own nL fr lo) (d : decode cc pc = .ok (.if_icmp .le off, 3)) (ht : (pc : Int) + off = (tgt : Int)) (h : (if x ≤ y then A else B) = some fin) (kt : A = some fin → WB K Γ σ tgt L S) (kf : B = some fin → WB K Γ σ (pc + 3) L S) : WB K Γ σ pc L (.int y :: .int x :: S) := by
  obtain ⟨p, l, e, R, s, m, args, below, meth, c, Q, c0, s0⟩ := Γ
  obtain ⟨hx, hb, hml, hown, hts, hK, hR, hlk, hz, hst, hU, hN⟩ := G
  intro H locs ls hl hP hD hS
  exact lv_icmp_le hx hb d ht (fun hc => kt (by rw [if_pos hc] at h; exact h) H locs ls hl hP hD hS) (fun hc => kf (by rw [if_neg hc] at h; exact h) H locs ls hl hP hD hS)
theorem wb_ifeq {x : Int32} {off : Int} {tgt : Nat} {A B : RR} (G : GB K Γ cc own nL fr lo) (d : decode cc pc = .ok (.ifCond .eq off, 3)) (ht : (pc : Int) + off = (tgt : Int)) (h : (if x = 0 then A else B) = some fin) (kt : A = some fin → WB K Γ σ tgt L S) (kf : B = some fin → WB K Γ σ (pc + 3) L S) : WB K Γ σ pc L (.int x :: S) := by
  obtain ⟨p, l, e, R, s, m, args, below, meth, c, Q, c0, s0⟩ := Γ
  obtain ⟨hx, hb, hml, hown, hts, hK, hR, hlk, hz, hst, hU, hN⟩ := G
  intro H locs ls hl hP hD hS
  exact lv_if_eq hx hb d ht (fun hc => kt (by rw [if_pos hc] at h; exact h) H locs ls hl hP hD hS) (fun hc => kf (by rw [if_neg hc] at h; exact h) H locs ls hl hP hD hS)
theorem wb_ifne {x : Int32} {off : Int} {tgt : Nat} {A B : RR} (G : GB K Γ cc own nL fr lo) (d : decode cc pc = .ok (.ifCond .ne off, 3)) (ht : (pc : Int) + off = (tgt : Int)) (h : (if ¬ x = 0 then A else B) = some fin) (kt : A = some fin → WB K Γ σ tgt L S) (kf : B = some fin → WB K Γ σ (pc + 3) L S) : WB K Γ σ pc L (.int x :: S) := by
  obtain ⟨p, l, e, R, s, m, args, below, meth, c, Q, c0, s0⟩ := Γ
  obtain ⟨hx, hb, hml, hown, hts, hK, hR, hlk, hz, hst, hU, hN⟩ := G
  intro H locs ls hl hP hD hS
  exact lv_if_ne hx hb d ht (fun hc => kt (by rw [if_pos hc] at h; exact h) H locs ls hl hP hD hS) (fun hc => kf (by rw [if_neg (fun z => z hc)] at h; exact h) H locs ls hl hP hD hS)
theorem wb_iflt {x : Int32} {off : Int} {tgt : Nat} {A B : RR} (G : GB K Γ cc own nL fr lo) (d : decode cc pc = .ok (.ifCond .lt off, 3)) (ht : (pc : Int) + off = (tgt : Int)) (h : (if x < 0 then A else B) = some fin) (kt : A = some fin → WB K Γ σ tgt L S) (kf : B = some fin → WB K Γ σ (pc + 3) L S) : WB K Γ σ pc L (.int x :: S) := by
  obtain ⟨p, l, e, R, s, m, args, below, meth, c, Q, c0, s0⟩ := Γ
  obtain ⟨hx, hb, hml, hown, hts, hK, hR, hlk, hz, hst, hU, hN⟩ := G
  intro H locs ls hl hP hD hS
  exact lv_if_lt hx hb d ht (fun hc => kt (by rw [if_pos hc] at h; exact h) H locs ls hl hP hD hS) (fun hc => kf (by rw [if_neg hc] at h; exact h) H locs ls hl hP hD hS)
theorem wb_ifge {x : Int32} {off : Int} {tgt : Nat} {A B : RR} (G : GB K Γ cc own nL fr lo) (d : decode cc pc = .ok (.ifCond .ge off, 3)) (ht : (pc : Int) + off = (tgt : Int)) (h : (if 0 ≤ x then A else B) = some fin) (kt : A = some fin → WB K Γ σ tgt L S) (kf : B = some fin → WB K Γ σ (pc + 3) L S) : WB K Γ σ pc L (.int x :: S) := by
  obtain ⟨p, l, e, R, s, m, args, below, meth, c, Q, c0, s0⟩ := Γ
  obtain ⟨hx, hb, hml, hown, hts, hK, hR, hlk, hz, hst, hU, hN⟩ := G
  intro H locs ls hl hP hD hS
  exact lv_if_ge hx hb d ht (fun hc => kt (by rw [if_pos hc] at h; exact h) H locs ls hl hP hD hS) (fun hc => kf (by rw [if_neg hc] at h; exact h) H locs ls hl hP hD hS)
theorem wb_ifgt {x : Int32} {off : Int} {tgt : Nat} {A B : RR} (G : GB K Γ cc own nL fr lo) (d : decode cc pc = .ok (.ifCond .gt off, 3)) (ht : (pc : Int) + off = (tgt : Int)) (h : (if 0 < x then A else B) = some fin) (kt : A = some fin → WB K Γ σ tgt L S) (kf : B = some fin → WB K Γ σ (pc + 3) L S) : WB K Γ σ pc L (.int x :: S) := by
  obtain ⟨p, l, e, R, s, m, args, below, meth, c, Q, c0, s0⟩ := Γ
  obtain ⟨hx, hb, hml, hown, hts, hK, hR, hlk, hz, hst, hU, hN⟩ := G
  intro H locs ls hl hP hD hS
  exact lv_if_gt hx hb d ht (fun hc => kt (by rw [if_pos hc] at h; exact h) H locs ls hl hP hD hS) (fun hc => kf (by rw [if_neg hc] at h; exact h) H locs ls hl hP hD hS)
theorem wb_ifle {x : Int32} {off : Int} {tgt : Nat} {A B : RR} (G : GB K Γ cc own nL fr lo) (d : decode cc pc = .ok (.ifCond .le off, 3)) (ht : (pc : Int) + off = (tgt : Int)) (h : (if x ≤ 0 then A else B) = some fin) (kt : A = some fin → WB K Γ σ tgt L S) (kf : B = some fin → WB K Γ σ (pc + 3) L S) : WB K Γ σ pc L (.int x :: S) := by
  obtain ⟨p, l, e, R, s, m, args, below, meth, c, Q, c0, s0⟩ := Γ
  obtain ⟨hx, hb, hml, hown, hts, hK, hR, hlk, hz, hst, hU, hN⟩ := G
  intro H locs ls hl hP hD hS
  exact lv_if_le hx hb d ht (fun hc => kt (by rw [if_pos hc] at h; exact h) H locs ls hl hP hD hS) (fun hc => kf (by rw [if_neg hc] at h; exact h) H locs ls hl hP hD hS)
theorem wb_jn {α : Type} {Rr : α → Mem → RR} {B : (α → Mem → RR) → RR} {goal : Prop} (h : mm_jn Rr B = some fin) (P : α → Mem → Prop) (J : ∀ x s, Rr x s = some fin → P x s) (k : ∀ r : α → Mem → RR, (∀ x s, r x s = some fin → P x s) → B r = some fin → goal) : goal := k Rr J h
theorem wb_tab {x w : Int32} {A B : RR} {goal : Prop} (h : (if x = w then A else B) = some fin) (kt : x = w → A = some fin → goal) (kf : ¬ x = w → B = some fin → goal) : goal := by
  by_cases hc : x = w
  · rw [if_pos hc] at h; exact kt hc h
  · rw [if_neg hc] at h; exact kf hc h
theorem wb_tabIn {dflt lo9 hi : Int} {offs : Array Int} {len : Nat} {x w : Int32} {off : Int} {tgt : Nat} (G : GB K Γ cc own nL fr lo) (d : decode cc pc = .ok (.tableswitch dflt lo9 hi offs, len)) (hw : x = w) (h1 : ¬ w.toInt < lo9) (h2 : ¬ hi < w.toInt) (ho : offs[(w.toInt - lo9).toNat]? = some off) (ht : (pc : Int) + off = (tgt : Int)) (k : WB K Γ σ tgt L S) : WB K Γ σ pc L (.int x :: S) := by
  subst hw
  obtain ⟨p, l, e, R, s, m, args, below, meth, c, Q, c0, s0⟩ := Γ
  obtain ⟨hx, hb, hml, hown, hts, hK, hR, hlk, hz, hst, hU, hN⟩ := G
  intro H locs ls hl hP hD hS
  exact lv_tableIn hx hb d h1 h2 ho ht (k H locs ls hl hP hD hS)
theorem wb_tabOut {dflt lo9 hi : Int} {offs : Array Int} {len : Nat} {x : Int32} {tgt : Nat} (G : GB K Γ cc own nL fr lo) (d : decode cc pc = .ok (.tableswitch dflt lo9 hi offs, len)) (h1 : x.toInt < lo9 ∨ hi < x.toInt) (ht : (pc : Int) + dflt = (tgt : Int)) (k : WB K Γ σ tgt L S) : WB K Γ σ pc L (.int x :: S) := by
  obtain ⟨p, l, e, R, s, m, args, below, meth, c, Q, c0, s0⟩ := Γ
  obtain ⟨hx, hb, hml, hown, hts, hK, hR, hlk, hz, hst, hU, hN⟩ := G
  intro H locs ls hl hP hD hS
  exact lv_tableOut hx hb d h1 ht (k H locs ls hl hP hD hS)
end VRowsB

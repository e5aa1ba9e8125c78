def cnt (F : Nat) : Nat := match F with
  | 0 => 1
  | 1 => 8
  | 2 => 8
  | 3 => 8
  | 4 => 8
  | 5 => 1
  | 6 => 1
  | 7 => 12
  | 8 => 12
  | 9 => 12
  | 10 => 12
  | 11 => 12
  | 12 => 1
  | 13 => 8
  | 14 => 8
  | 15 => 8
  | 16 => 24
  | 17 => 24
  | 18 => 1
  | 19 => 16
  | 20 => 16
  | 21 => 1
  | 22 => 2
  | 23 => 2
  | 24 => 2
  | 25 => 2
  | 26 => 2
  | 27 => 2
  | 30 => 1
  | 31 => 1
  | 32 => 1
  | 33 => 1
  | 34 => 1
  | 35 => 1
  | 36 => 1
  | 37 => 1
  | 38 => 1
  | 39 => 1
  | 40 => 1
  | 41 => 1
  | 42 => 1
  | 43 => 1
  | 44 => 1
  | 45 => 1
  | 46 => 1
  | 47 => 1
  | 48 => 1
  | 49 => 1
  | 50 => 1
  | 51 => 1
  | 52 => 1
  | 53 => 1
  | 54 => 1
  | 55 => 1
  | 56 => 1
  | 57 => 1
  | 58 => 1
  | 59 => 1
  | 60 => 1
  | 61 => 1
  | 70 => 1
  | _ => 0
def tb_all : List (Nat × Nat) := (List.range 72).flatMap fun F => (List.range (cnt F)).map fun i => (F, i)
def tb_base (F : Nat) : Nat := match F with
  | 0 => 0
  | 1 => 1
  | 2 => 9
  | 3 => 17
  | 4 => 25
  | 5 => 33
  | 6 => 34
  | 7 => 35
  | 8 => 47
  | 9 => 59
  | 10 => 71
  | 11 => 83
  | 12 => 95
  | 13 => 96
  | 14 => 104
  | 15 => 112
  | 16 => 120
  | 17 => 144
  | 18 => 168
  | 19 => 169
  | 20 => 185
  | 21 => 201
  | 22 => 202
  | 23 => 204
  | 24 => 206
  | 25 => 208
  | 26 => 210
  | 27 => 212
  | 30 => 214
  | 31 => 215
  | 32 => 216
  | 33 => 217
  | 34 => 218
  | 35 => 219
  | 36 => 220
  | 37 => 221
  | 38 => 222
  | 39 => 223
  | 40 => 224
  | 41 => 225
  | 42 => 226
  | 43 => 227
  | 44 => 228
  | 45 => 229
  | 46 => 230
  | 47 => 231
  | 48 => 232
  | 49 => 233
  | 50 => 234
  | 51 => 235
  | 52 => 236
  | 53 => 237
  | 54 => 238
  | 55 => 239
  | 56 => 240
  | 57 => 241
  | 58 => 242
  | 59 => 243
  | 60 => 244
  | 61 => 245
  | 70 => 246
  | _ => 0
def tb_pos (F i : Nat) : Nat := tb_base F + i
set_option maxRecDepth 100000 in
theorem tb_at : ∀ F, F < 72 → ∀ i, i < cnt F → tb_all[tb_pos F i]? = some (F, i) := by decide +kernel
set_option maxRecDepth 100000 in
theorem tb_inv0 : (List.range tb_all.length).all (fun j => match tb_all[j]? with | some c => tb_pos c.1 c.2 == j | none => true) = true := by decide +kernel
theorem tb_inv : ∀ (j : Nat) (c : Nat × Nat), tb_all[j]? = some c → tb_pos c.1 c.2 = j := by
  intro j c h
  have hj : j < tb_all.length := (List.getElem?_eq_some_iff.mp h).1
  have h1 := List.all_eq_true.mp tb_inv0 j (List.mem_range.mpr hj)
  rw [h] at h1
  simpa using h1
def tyL (tc : Nat → ClassId) : List (ClassId × FieldType) := [(tc 0, .int), (tc 1, .long), (tc 2, .boolean), (tc 3, .object "VillageMail$Timetable"), (tc 4, .object "VillageMail$Store"), (tc 5, .object "VillageMail$Boxes"), (tc 6, .object "VillageMail$Box"), (tc 7, .object "VillageMail$Letter")]
def ctR (K : KK) (F i : Nat) (r : Nat → Int32) (q : Nat → Int64) : va_E := match F with
  | 0 => .inr (7, [.int (r 0), .ref (aa K 1 7), .ref (aa K 5 0), .int (r 3), .ref (aa K 6 0), .ref (aa K 12 0), .ref (aa K 18 0), .int (r 7), .ref (aa K 21 0), .int (r 9), .ref (aa K 22 0), .ref (aa K 22 1), .ref (aa K 26 0), .ref (aa K 26 1), .int (r 14), .int (r 15)])
  | 1 => .inr (6, [.ref (aa K 2 i), .ref (aa K 3 i), .ref (aa K 4 i), .int (r 3)])
  | 2 => .inl (K.2.2.1 0, 24, .inl r)
  | 3 => .inl (K.2.2.1 0, 24, .inl r)
  | 4 => .inl (K.2.2.1 0, 24, .inl r)
  | 5 => .inl (K.2.2.1 3, 7, .inr (.inr (.inr (.inr (fun j => some (aa K 1 j))))))
  | 6 => .inl (K.2.2.1 4, 12, .inr (.inr (.inr (.inr (fun j => some (aa K 7 j))))))
  | 7 => .inr (5, [.int (r 0), .ref (aa K 8 i), .ref (aa K 9 i), .ref (aa K 10 i), .ref (aa K 11 i), .int (r 5), .int (r 6), .int (r 7), .int (r 8)])
  | 8 => .inl (K.2.2.1 0, 64, .inl r)
  | 9 => .inl (K.2.2.1 0, 64, .inl r)
  | 10 => .inl (K.2.2.1 1, 64, .inr (.inl q))
  | 11 => .inl (K.2.2.1 0, 16, .inl r)
  | 12 => .inl (K.2.2.1 5, 8, .inr (.inr (.inr (.inr (fun j => some (aa K 13 j))))))
  | 13 => .inr (1, [.ref (aa K 14 i), .ref (aa K 15 i)])
  | 14 => .inl (K.2.2.1 6, 3, .inr (.inr (.inr (.inr (fun j => some (aa K 16 (3 * i + j)))))))
  | 15 => .inl (K.2.2.1 0, 2, .inl r)
  | 16 => .inr (0, [.ref (aa K 17 i), .int (r 1), .int (r 2), .int (r 3)])
  | 17 => .inl (K.2.2.1 0, 16, .inl r)
  | 18 => .inl (K.2.2.1 7, 16, .inr (.inr (.inr (.inr (fun j => some (aa K 19 j))))))
  | 19 => .inr (2, [.int (r 0), .int (r 1), .int (r 2), .int (r 3), .int (r 4), .int (r 5), .int (r 6), .int (r 7), .int (r 8), .int (r 9), .ref (aa K 20 i)])
  | 20 => .inl (K.2.2.1 1, 4, .inr (.inl q))
  | 21 => .inl (K.2.2.1 1, 4, .inr (.inl q))
  | 22 => .inr (4, [.ref (aa K 23 i), .ref (aa K 24 i), .ref (aa K 25 i)])
  | 23 => .inl (K.2.2.1 0, 8, .inl r)
  | 24 => .inl (K.2.2.1 0, 8, .inl r)
  | 25 => .inl (K.2.2.1 2, 4, .inl r)
  | 26 => .inr (3, [.ref (aa K 27 i), .int (r 1)])
  | 27 => .inl (K.2.2.1 0, 24, .inl r)
  | 30 => .inr (8, [.ref (aa K 31 0), .ref (aa K 32 0), .ref (aa K 33 0), .ref (aa K 34 0), .int (r 4), .int (r 5), .ref (aa K 35 0), .int (r 7), .ref (aa K 36 0), .ref (aa K 37 0), .ref (aa K 38 0), .ref (aa K 39 0), .ref (aa K 40 0), .ref (aa K 41 0), .ref (aa K 42 0), .ref (aa K 43 0), .ref (aa K 44 0), .ref (aa K 45 0), .ref (aa K 46 0), .ref (aa K 47 0), .ref (aa K 48 0), .ref (aa K 49 0), .ref (aa K 50 0), .ref (aa K 51 0), .ref (aa K 52 0), .ref (aa K 53 0), .ref (aa K 54 0), .ref (aa K 55 0), .ref (aa K 56 0), .ref (aa K 57 0), .int (r 30), .int (r 31), .ref (aa K 58 0), .ref (aa K 59 0), .ref (aa K 60 0), .int (r 35), .int (r 36), .ref (aa K 61 0)])
  | 31 => .inl (K.2.2.1 0, 192, .inl r)
  | 32 => .inl (K.2.2.1 0, 192, .inl r)
  | 33 => .inl (K.2.2.1 0, 192, .inl r)
  | 34 => .inl (K.2.2.1 0, 8, .inl r)
  | 35 => .inl (K.2.2.1 0, 12, .inl r)
  | 36 => .inl (K.2.2.1 0, 16, .inl r)
  | 37 => .inl (K.2.2.1 0, 16, .inl r)
  | 38 => .inl (K.2.2.1 0, 16, .inl r)
  | 39 => .inl (K.2.2.1 0, 16, .inl r)
  | 40 => .inl (K.2.2.1 0, 16, .inl r)
  | 41 => .inl (K.2.2.1 0, 16, .inl r)
  | 42 => .inl (K.2.2.1 0, 16, .inl r)
  | 43 => .inl (K.2.2.1 0, 16, .inl r)
  | 44 => .inl (K.2.2.1 2, 16, .inl r)
  | 45 => .inl (K.2.2.1 0, 512, .inl r)
  | 46 => .inl (K.2.2.1 2, 768, .inl r)
  | 47 => .inl (K.2.2.1 0, 768, .inl r)
  | 48 => .inl (K.2.2.1 0, 768, .inl r)
  | 49 => .inl (K.2.2.1 0, 6144, .inl r)
  | 50 => .inl (K.2.2.1 0, 192, .inl r)
  | 51 => .inl (K.2.2.1 0, 12, .inl r)
  | 52 => .inl (K.2.2.1 0, 12, .inl r)
  | 53 => .inl (K.2.2.1 0, 24, .inl r)
  | 54 => .inl (K.2.2.1 0, 24, .inl r)
  | 55 => .inl (K.2.2.1 0, 384, .inl r)
  | 56 => .inl (K.2.2.1 2, 48, .inl r)
  | 57 => .inl (K.2.2.1 0, 32, .inl r)
  | 58 => .inl (K.2.2.1 2, 4, .inl r)
  | 59 => .inl (K.2.2.1 0, 8, .inl r)
  | 60 => .inl (K.2.2.1 2, 128, .inl r)
  | 61 => .inl (K.2.2.1 0, 8, .inl r)
  | 70 => .inl (K.2.2.1 1, 1, .inr (.inl q))
  | _ => .inr (0, [])
def ct (K : KK) (σ : Mem) (F i : Nat) : va_E := ctR K F i (σ.1 F i) (σ.2 F i)
def FL (K : KK) (σ : Mem) : va_W := tb_all.map fun c => (aa K c.1 c.2, ct K σ c.1 c.2)
def AK (K : KK) : Nat → Prop := fun q => ∃ F i, F < 72 ∧ i < cnt F ∧ q = aa K F i
def exn : Nat → String
  | 1 => "java/lang/IllegalArgumentException"
  | 2 => "java/lang/IllegalStateException"
  | 3 => "java/lang/IndexOutOfBoundsException"
  | _ => "java/util/NoSuchElementException"
-- a static of Throwable that holds a reference or null, in a cell that no row of ours touches
def Sta (A : Nat → Prop) (U : State) (H : Heap) (n d : String) : Prop := ∃ (c : ClassId) (k : Class) (i : Nat) (f : Field) (a : Nat) (cell : Cell) (v : Value), U.vm.findClass Bundle.tN = some c ∧ U.fieldFound? Bundle.tN n d = some (c, k, i, f) ∧ f.isStatic = true ∧ k.statics = some a ∧ k.staticTypes[f.slot]? = some f.type ∧ H[a]? = some cell ∧ cell.vm.isStatics = true ∧ cell.cls = c ∧ f.slot < cell.slots.size ∧ cell.slots[f.slot]? = some v ∧ v.isRef = true ∧ ¬ A a
def StU (K : KK) (U : State) (H : Heap) : Prop := Sta (AK K) U H "UNASSIGNED_STACK" Bundle.steD
def xs_nw : List Cond := [.declares (Bundle.init0 "java/lang/RuntimeException"), .declares (Bundle.init0 "java/lang/Exception"), .declares (Bundle.init0 Bundle.tN), .castable (exn 1) (exn 1), .castable (exn 2) (exn 2), .castable (exn 3) (exn 3), .castable (exn 4) (exn 4)]
def Nws (U : State) : Prop := (∀ w ∈ xs_nw, w.before #[] U = true) ∧ va_Nc (exn 2) (exn 1) U ∧ va_Nc (exn 3) (exn 1) U ∧ va_Nc (exn 4) (exn 1) U
def StN (K : KK) (U : State) (H : Heap) : Prop := Sta (AK K) U H "SUPPRESSED_SENTINEL" Bundle.listD ∧ Nws U
def Wd (K : KK) (σ : Mem) (U : State) : Prop := va_P K.2.1 vwCl (FL K σ) U.heap ∧ va_D (AK K) (FL K σ) ∧ va_K K.2.1 vwCl (tyL K.2.2.1) U ∧ StU K U U.heap ∧ StN K U U.heap
def PcO (K : KK) (av : List Value) (σ : Mem) : Array Value → State → Prop := fun a U => a = av.toArray ∧ Wd K σ U
def QcR (K : KK) (r : Option Value) (q : Mem) : Array Value → State → Outcome → State → Prop := fun _ st oc t => oc = .returned r ∧ Wd K q t ∧ va_F (AK K) st t
def TqO (K : KK) (e : Nat) (q : Mem) : State → Outcome → State → Prop := fun st oc t => ∃ (x : Addr) (ce : Cell) (L : List Loc), oc = .threw x ∧ t.heap[x]? = some ce ∧ ce.vm = .none ∧ st.vm.findClass (exn e) = some ce.cls ∧ Wd K q t ∧ va_F (AK K) st t ∧ st.WarmedH t.vm ∧ st.sameButNew ({ t with vm := st.vm } : State) L 1 6 ∧ ∀ z ∈ L, AK K z.base
def Ct (l : Launch) (K : KK) (y : MethodName) (b : ByteArray) (mL : Nat) (rt : Option FieldType) (fr lo : Nat) (av : List Value) (σ : Mem) (o : Oc) (q : Mem) : Prop := l.stackTraces = false → match o with
  | .inr r => Met l y (.code y b mL rt :: wAll) { frames := fr, cells := 0, slots := 0, locals := lo } (PcO K av σ) (QcR K r q) 0 0 (AK K)
  | .inl e => MetFree l y (headSpec (.code y b mL rt :: wAll) { frames := fr, cells := 1, slots := 6, locals := lo }) (PcO K av σ) (fun _ _ _ _ _ => True) (fun _ st oc t => TqO K e q st oc t)
def Good (K : KK) (Γ : Cx) (cc : ByteArray) (own : String) (nL fr lo : Nat) : Prop := match Γ with
  | (p, l, _, R, s, m, args, _, meth, c, _, c0, s0) => p.tables.exec = Jvm.exec ∧ c.code = cc ∧ c.maxLocals = nL ∧ s.vm.findClass own = some m.cls ∧ (∀ w ∈ wAll, w.before args s = true) ∧ va_K K.2.1 vwCl (tyL K.2.2.1) s ∧ (fr ≤ R.frames ∧ lo ≤ R.locals ∧ c0 ≤ R.cells ∧ s0 ≤ R.slots) ∧ meth.locks = false ∧ True ∧ l.stackTraces = false ∧ StU K s s.heap ∧ StN K s s.heap
def EQ (K : KK) (below : List Frame) (args : Array Value) (s : State) (o : Oc) (q : Mem) : State → Prop := match o with
  | .inr r => MQ below (QcR K r q) args s 0 0 (AK K)
  | .inl e => fun t => ∃ oc, t.status = .running ∧ Ended t below oc ∧ TqO K e q s oc t
def Ends (K : KK) (Γ : Cx) (rt : Option FieldType) (o : Oc) (q : Mem) : Prop := match Γ with
  | (_, _, _, R, s, _, args, below, meth, c, Q, c0, s0) => Q = EQ K below args s o q ∧ meth.sig.returnType = rt ∧ (∀ pc, ∀ x ∈ c.exceptionTable.toList, covers x pc = false) ∧ (∀ e, o = .inl e → 1 ≤ R.cells ∧ 6 ≤ R.slots) ∧ c0 = 0 ∧ s0 = 0
def WW (K : KK) (Γ : Cx) (n : Nat) (σ : Mem) (pc : Nat) (L : List (Nat × Value)) (S : List Value) : Prop := match Γ with
  | (p, l, e, R, s, m, args, below, meth, c, Q, c0, s0) => ∀ (H : Heap) (locs : List Loc) (ls : Array Slot), lv_has ls c.maxLocals L → va_P K.2.1 vwCl (FL K σ) H → va_D (AK K) (FL K σ) → va_S (AK K) s.heap H locs → W p l e R s m args below meth c H locs (c0 + n) (s0 + 6 * n) Q (F0 m pc ls S)
def ArI (F N : Nat) : Prop := F < 72 ∧ ∀ K i r q, ctR K F i r q = .inl (K.2.2.1 0, N, .inl r)
def ArZ (F N : Nat) : Prop := F < 72 ∧ ∀ K i r q, ctR K F i r q = .inl (K.2.2.1 2, N, .inl r)
def ArJ (F N : Nat) : Prop := F < 72 ∧ ∀ K i r q, ctR K F i r q = .inl (K.2.2.1 1, N, .inr (.inl q))
def ArA (F N t : Nat) (C : String) (F2 : Nat) (g : Nat → Nat → Nat) : Prop := F < 72 ∧ (∀ K : KK, (tyL K.2.2.1)[t]? = some (K.2.2.1 t, .object C)) ∧ ∀ K i r q, ctR K F i r q = .inl (K.2.2.1 t, N, .inr (.inr (.inr (.inr (fun j => some (aa K F2 (g i j)))))))
def FsI (own : String) (idx F q : Nat) (ty : FieldType) (fn : Bool) : Prop := F < 72 ∧ ∃ (ci : Nat) (C : String) (T : u_T) (N : Nat) (ty0 : Nat → FieldType), vwCl[ci]? = some (C, T, N) ∧ q < N ∧ (∀ w ∈ u_ws C T N, w ∈ wAll) ∧ Cond.fieldLink own idx (T q).1 (T q).2.1 (T q).2.2.1 ∈ wAll ∧
  (∀ K i r j, ∃ fl, ctR K F i r j = .inr (ci, fl) ∧ fl[q]? = some (.int (r q)) ∧ q < fl.length ∧ ∀ v, ctR K F i (upd r q v) j = .inr (ci, fl.set q (.int v))) ∧ (∀ k, k < N → parseFieldDescriptor (T k).2.2.1 = some (ty0 k)) ∧ (∀ a, a < N → ∀ b, b < N → a ≠ b → (T a).2.1 ≠ (T b).2.1) ∧ (T q).2.2.2 = fn ∧ parseFieldDescriptor (T q).2.2.1 = some ty
def FsR (own : String) (idx F q F2 : Nat) (g : Nat → Nat) : Prop := F < 72 ∧ ∃ (ci : Nat) (C : String) (T : u_T) (N : Nat), vwCl[ci]? = some (C, T, N) ∧ q < N ∧ (∀ w ∈ u_ws C T N, w ∈ wAll) ∧ Cond.fieldLink own idx (T q).1 (T q).2.1 (T q).2.2.1 ∈ wAll ∧
  (∀ K i r j, ∃ fl, ctR K F i r j = .inr (ci, fl) ∧ fl[q]? = some (.ref (aa K F2 (g i))))
def CsV (own : String) (idx : Nat) (y : MethodName) (b : ByteArray) (mL : Nat) (rt : Option FieldType) (na F : Nat) : Prop := F < 72 ∧ ∃ (ci : Nat) (T : u_T) (N : Nat), vwCl[ci]? = some (y.cls, T, N) ∧ (∀ K i r j, ∃ fl, ctR K F i r j = .inr (ci, fl)) ∧ GoodIn wAll (wsV own idx y.cls y (.code y b mL rt :: wAll)) ∧ (y.cls ≠ "java/lang/invoke/MethodHandle" ∧ y.cls ≠ "java/lang/invoke/VarHandle" ∧ (parseMethodDescriptor y.desc).map (fun d => d.parameters.length) = some na)
def CsS (own : String) (idx : Nat) (y : MethodName) (b : ByteArray) (mL : Nat) (rt : Option FieldType) (na : Nat) : Prop := GoodIn wAll (va_wsS own idx y (.code y b mL rt :: wAll)) ∧ (y.cls ≠ "java/lang/invoke/MethodHandle" ∧ y.cls ≠ "java/lang/invoke/VarHandle" ∧ (parseMethodDescriptor y.desc).map (fun d => d.parameters.length) = some na)
def Mx (own : String) (idx : Nat) (y : MethodName) (b : ByteArray) : Prop := Cond.methodLink own idx y ∈ wAll ∧ Cond.static y ∈ wAll ∧ Cond.initialized "java/lang/Math" ∈ wAll ∧ Cond.code y b 2 (some .int) ∈ wAll
def Ac (own : String) (idx : Nat) : Prop := Cond.methodLink own idx arraycopyName ∈ wAll ∧ Cond.native arraycopyName ∈ wAll ∧ Cond.static arraycopyName ∈ wAll ∧ Cond.initialized "java/lang/System" ∈ wAll
def xs_up : List String := ["java/lang/RuntimeException", "java/lang/Exception"]
-- the words of a throw that speak of the heap are four; the others stand in the tables
def xs_nh (w : Cond) : Bool := match w with
  | .laysStatic .. => false
  | .isRef _ => false
  | .declares _ => false
  | .castable .. => false
  | _ => true
def Xs (own : String) (ik ic : Nat) (cls : String) (e : Nat) : Prop := exn e = cls ∧ Cond.classLink own ik cls ∈ wAll ∧ Cond.initialized cls ∈ wAll ∧ (Bundle.fit cls = true ∧ Cond.castable cls cls ∈ xs_nw) ∧ (∀ w ∈ (Bundle.ownAtoms0 own ic cls xs_up).filter xs_nh, w ∈ wAll) ∧ ((Bundle.ownAtoms0 own ic cls xs_up).filter xs_nh).all (fun w => w.onTables) = true ∧
  (Bundle.ownAtoms0 own ic cls xs_up).filter (fun w => !xs_nh w) = [.laysStatic Bundle.tN "UNASSIGNED_STACK" Bundle.steD, .laysStatic Bundle.tN "SUPPRESSED_SENTINEL" Bundle.listD, .declares (Bundle.init0 "java/lang/RuntimeException"), .declares (Bundle.init0 "java/lang/Exception"), .declares (Bundle.init0 Bundle.tN), .castable cls cls, .isRef (.static Bundle.tN "UNASSIGNED_STACK" Bundle.steD), .isRef (.static Bundle.tN "SUPPRESSED_SENTINEL" Bundle.listD)]
theorem ar_2 : ArI 2 24 := ⟨by decide, fun _ _ _ _ => rfl⟩
theorem ar_3 : ArI 3 24 := ⟨by decide, fun _ _ _ _ => rfl⟩
theorem ar_4 : ArI 4 24 := ⟨by decide, fun _ _ _ _ => rfl⟩
theorem ar_5 : ArA 5 7 3 "VillageMail$Timetable" 1 (fun i j => j) := ⟨by decide, fun _ => rfl, fun _ _ _ _ => rfl⟩
theorem ar_6 : ArA 6 12 4 "VillageMail$Store" 7 (fun i j => j) := ⟨by decide, fun _ => rfl, fun _ _ _ _ => rfl⟩
theorem ar_8 : ArI 8 64 := ⟨by decide, fun _ _ _ _ => rfl⟩
theorem ar_9 : ArI 9 64 := ⟨by decide, fun _ _ _ _ => rfl⟩
theorem ar_10 : ArJ 10 64 := ⟨by decide, fun _ _ _ _ => rfl⟩
theorem ar_11 : ArI 11 16 := ⟨by decide, fun _ _ _ _ => rfl⟩
theorem ar_12 : ArA 12 8 5 "VillageMail$Boxes" 13 (fun i j => j) := ⟨by decide, fun _ => rfl, fun _ _ _ _ => rfl⟩
theorem ar_14 : ArA 14 3 6 "VillageMail$Box" 16 (fun i j => (3 * i + j)) := ⟨by decide, fun _ => rfl, fun _ _ _ _ => rfl⟩
theorem ar_15 : ArI 15 2 := ⟨by decide, fun _ _ _ _ => rfl⟩
theorem ar_17 : ArI 17 16 := ⟨by decide, fun _ _ _ _ => rfl⟩
theorem ar_18 : ArA 18 16 7 "VillageMail$Letter" 19 (fun i j => j) := ⟨by decide, fun _ => rfl, fun _ _ _ _ => rfl⟩
theorem ar_20 : ArJ 20 4 := ⟨by decide, fun _ _ _ _ => rfl⟩
theorem ar_21 : ArJ 21 4 := ⟨by decide, fun _ _ _ _ => rfl⟩
theorem ar_23 : ArI 23 8 := ⟨by decide, fun _ _ _ _ => rfl⟩
theorem ar_24 : ArI 24 8 := ⟨by decide, fun _ _ _ _ => rfl⟩
theorem ar_25 : ArZ 25 4 := ⟨by decide, fun _ _ _ _ => rfl⟩
theorem ar_27 : ArI 27 24 := ⟨by decide, fun _ _ _ _ => rfl⟩
theorem ar_31 : ArI 31 192 := ⟨by decide, fun _ _ _ _ => rfl⟩
theorem ar_32 : ArI 32 192 := ⟨by decide, fun _ _ _ _ => rfl⟩
theorem ar_33 : ArI 33 192 := ⟨by decide, fun _ _ _ _ => rfl⟩
theorem ar_34 : ArI 34 8 := ⟨by decide, fun _ _ _ _ => rfl⟩
theorem ar_35 : ArI 35 12 := ⟨by decide, fun _ _ _ _ => rfl⟩
theorem ar_36 : ArI 36 16 := ⟨by decide, fun _ _ _ _ => rfl⟩
theorem ar_37 : ArI 37 16 := ⟨by decide, fun _ _ _ _ => rfl⟩
theorem ar_38 : ArI 38 16 := ⟨by decide, fun _ _ _ _ => rfl⟩
theorem ar_39 : ArI 39 16 := ⟨by decide, fun _ _ _ _ => rfl⟩
theorem ar_40 : ArI 40 16 := ⟨by decide, fun _ _ _ _ => rfl⟩
theorem ar_41 : ArI 41 16 := ⟨by decide, fun _ _ _ _ => rfl⟩
theorem ar_42 : ArI 42 16 := ⟨by decide, fun _ _ _ _ => rfl⟩
theorem ar_43 : ArI 43 16 := ⟨by decide, fun _ _ _ _ => rfl⟩
theorem ar_44 : ArZ 44 16 := ⟨by decide, fun _ _ _ _ => rfl⟩
theorem ar_45 : ArI 45 512 := ⟨by decide, fun _ _ _ _ => rfl⟩
theorem ar_46 : ArZ 46 768 := ⟨by decide, fun _ _ _ _ => rfl⟩
theorem ar_47 : ArI 47 768 := ⟨by decide, fun _ _ _ _ => rfl⟩
theorem ar_48 : ArI 48 768 := ⟨by decide, fun _ _ _ _ => rfl⟩
theorem ar_49 : ArI 49 6144 := ⟨by decide, fun _ _ _ _ => rfl⟩
theorem ar_50 : ArI 50 192 := ⟨by decide, fun _ _ _ _ => rfl⟩
theorem ar_51 : ArI 51 12 := ⟨by decide, fun _ _ _ _ => rfl⟩
theorem ar_52 : ArI 52 12 := ⟨by decide, fun _ _ _ _ => rfl⟩
theorem ar_53 : ArI 53 24 := ⟨by decide, fun _ _ _ _ => rfl⟩
theorem ar_54 : ArI 54 24 := ⟨by decide, fun _ _ _ _ => rfl⟩
theorem ar_55 : ArI 55 384 := ⟨by decide, fun _ _ _ _ => rfl⟩
theorem ar_56 : ArZ 56 48 := ⟨by decide, fun _ _ _ _ => rfl⟩
theorem ar_57 : ArI 57 32 := ⟨by decide, fun _ _ _ _ => rfl⟩
theorem ar_58 : ArZ 58 4 := ⟨by decide, fun _ _ _ _ => rfl⟩
theorem ar_59 : ArI 59 8 := ⟨by decide, fun _ _ _ _ => rfl⟩
theorem ar_60 : ArZ 60 128 := ⟨by decide, fun _ _ _ _ => rfl⟩
theorem ar_61 : ArI 61 8 := ⟨by decide, fun _ _ _ _ => rfl⟩
theorem ar_70 : ArJ 70 1 := ⟨by decide, fun _ _ _ _ => rfl⟩
def y_B_fits : MethodName := ⟨"VillageMail$Box", "fits", "(I)Z"⟩
abbrev b_B_fits : ByteArray := prog_2_method_2_code
def y_B_put : MethodName := ⟨"VillageMail$Box", "put", "(II)V"⟩
abbrev b_B_put : ByteArray := prog_2_method_3_code
def y_B_takeOut : MethodName := ⟨"VillageMail$Box", "takeOut", "(II)V"⟩
abbrev b_B_takeOut : ByteArray := prog_2_method_4_code
def y_C_toggle : MethodName := ⟨"VillageMail$Boxes", "toggle", "(II)Z"⟩
abbrev b_C_toggle : ByteArray := prog_3_method_2_code
def y_C_addressedBy : MethodName := ⟨"VillageMail$Boxes", "addressedBy", "(I)I"⟩
abbrev b_C_addressedBy : ByteArray := prog_3_method_3_code
def y_C_allFit : MethodName := ⟨"VillageMail$Boxes", "allFit", "(II)Z"⟩
abbrev b_C_allFit : ByteArray := prog_3_method_5_code
def y_C_putInto : MethodName := ⟨"VillageMail$Boxes", "putInto", "(III)Z"⟩
abbrev b_C_putInto : ByteArray := prog_3_method_4_code
def y_O_add : MethodName := ⟨"VillageMail$Offers", "add", "(I)V"⟩
abbrev b_O_add : ByteArray := prog_5_method_2_code
def y_T_find : MethodName := ⟨"VillageMail$Timetable", "find", "(II)I"⟩
abbrev b_T_find : ByteArray := prog_8_method_2_code
def y_T_set : MethodName := ⟨"VillageMail$Timetable", "set", "(IIII)V"⟩
abbrev b_T_set : ByteArray := prog_8_method_6_code
def y_T_insert : MethodName := ⟨"VillageMail$Timetable", "insert", "(III)V"⟩
abbrev b_T_insert : ByteArray := prog_8_method_3_code
def y_T_takeOut : MethodName := ⟨"VillageMail$Timetable", "takeOut", "(I)V"⟩
abbrev b_T_takeOut : ByteArray := prog_8_method_4_code
def y_T_become : MethodName := ⟨"VillageMail$Timetable", "become", "(LVillageMail$Timetable;)V"⟩
abbrev b_T_become : ByteArray := prog_8_method_5_code
def y_S_room : MethodName := ⟨"VillageMail$Store", "room", "()I"⟩
abbrev b_S_room : ByteArray := prog_7_method_2_code
def y_S_has : MethodName := ⟨"VillageMail$Store", "has", "(I)Z"⟩
abbrev b_S_has : ByteArray := prog_7_method_3_code
def y_S_countOf : MethodName := ⟨"VillageMail$Store", "countOf", "(I)I"⟩
abbrev b_S_countOf : ByteArray := prog_7_method_4_code
def y_S_take : MethodName := ⟨"VillageMail$Store", "take", "(IJI)V"⟩
abbrev b_S_take : ByteArray := prog_7_method_5_code
def y_S_free : MethodName := ⟨"VillageMail$Store", "free", "(I)V"⟩
abbrev b_S_free : ByteArray := prog_7_method_6_code
def y_S_freeAllOf : MethodName := ⟨"VillageMail$Store", "freeAllOf", "(I)V"⟩
abbrev b_S_freeAllOf : ByteArray := prog_7_method_7_code
def y_S_learnHops : MethodName := ⟨"VillageMail$Store", "learnHops", "(II)V"⟩
abbrev b_S_learnHops : ByteArray := prog_7_method_8_code
def y_S_unlearn : MethodName := ⟨"VillageMail$Store", "unlearn", "(I)V"⟩
abbrev b_S_unlearn : ByteArray := prog_7_method_9_code
def y_S_learnOf : MethodName := ⟨"VillageMail$Store", "learnOf", "(II)V"⟩
abbrev b_S_learnOf : ByteArray := prog_7_method_10_code
def y_S_forgetPieces : MethodName := ⟨"VillageMail$Store", "forgetPieces", "()V"⟩
abbrev b_S_forgetPieces : ByteArray := prog_7_method_11_code
def y_R_clear : MethodName := ⟨"VillageMail$Ride", "clear", "()V"⟩
abbrev b_R_clear : ByteArray := prog_6_method_4_code
def y_J_floorMod : MethodName := ⟨"java/lang/Math", "floorMod", "(II)I"⟩
abbrev b_J_floorMod : ByteArray := prog_15_method_50_code
def y_R_seeStop : MethodName := ⟨"VillageMail$Ride", "seeStop", "(III)V"⟩
abbrev b_R_seeStop : ByteArray := prog_6_method_6_code
def y_R_goBy : MethodName := ⟨"VillageMail$Ride", "goBy", "(LVillageMail$Timetable;II)V"⟩
abbrev b_R_goBy : ByteArray := prog_6_method_5_code
def y_R_startAtKiosk : MethodName := ⟨"VillageMail$Ride", "startAtKiosk", "(LVillageMail$Timetable;II)V"⟩
abbrev b_R_startAtKiosk : ByteArray := prog_6_method_2_code
def y_R_startOnBus : MethodName := ⟨"VillageMail$Ride", "startOnBus", "(LVillageMail$Timetable;II)V"⟩
abbrev b_R_startOnBus : ByteArray := prog_6_method_3_code
def y_X_isBus : MethodName := ⟨"VillageMail", "isBus", "(I)Z"⟩
abbrev b_X_isBus : ByteArray := prog_1_method_40_code
def y_X_demand : MethodName := ⟨"VillageMail", "demand", "(Z)V"⟩
abbrev b_X_demand : ByteArray := prog_1_method_36_code
def y_X_isWithin : MethodName := ⟨"VillageMail", "isWithin", "(II)Z"⟩
abbrev b_X_isWithin : ByteArray := prog_1_method_38_code
def y_X_isKiosk : MethodName := ⟨"VillageMail", "isKiosk", "(I)Z"⟩
abbrev b_X_isKiosk : ByteArray := prog_1_method_39_code
def y_X_stop : MethodName := ⟨"VillageMail", "stop", "(III)I"⟩
abbrev b_X_stop : ByteArray := prog_1_method_2_code
def y_X_cancel : MethodName := ⟨"VillageMail", "cancel", "(II)Z"⟩
abbrev b_X_cancel : ByteArray := prog_1_method_3_code
def y_X_publish : MethodName := ⟨"VillageMail", "publish", "()I"⟩
abbrev b_X_publish : ByteArray := prog_1_method_4_code
def y_X_arrival : MethodName := ⟨"VillageMail", "arrival", "(IIII)I"⟩
abbrev b_X_arrival : ByteArray := prog_1_method_6_code
def y_X_best : MethodName := ⟨"VillageMail", "best", "(III)I"⟩
abbrev b_X_best : ByteArray := prog_1_method_5_code
def y_X_isBox : MethodName := ⟨"VillageMail", "isBox", "(II)Z"⟩
abbrev b_X_isBox : ByteArray := prog_1_method_42_code
def y_X_piecesIn : MethodName := ⟨"VillageMail", "piecesIn", "(I)I"⟩
abbrev b_X_piecesIn : ByteArray := prog_1_method_43_code
def y_X_byteAt : MethodName := ⟨"VillageMail", "byteAt", "(JI)I"⟩
abbrev b_X_byteAt : ByteArray := prog_1_method_44_code
def y_X_sumOf : MethodName := ⟨"VillageMail", "sumOf", "([JI)I"⟩
abbrev b_X_sumOf : ByteArray := prog_1_method_46_code
def y_X_lookAt : MethodName := ⟨"VillageMail", "lookAt", "(I)V"⟩
abbrev b_X_lookAt : ByteArray := prog_1_method_22_code
def y_X_lookAtAllOf : MethodName := ⟨"VillageMail", "lookAtAllOf", "(I)V"⟩
abbrev b_X_lookAtAllOf : ByteArray := prog_1_method_21_code
def y_X_household : MethodName := ⟨"VillageMail", "household", "(III)V"⟩
abbrev b_X_household : ByteArray := prog_1_method_7_code
def y_X_group : MethodName := ⟨"VillageMail", "group", "(III)Z"⟩
abbrev b_X_group : ByteArray := prog_1_method_8_code
def y_X_box : MethodName := ⟨"VillageMail", "box", "(III)I"⟩
abbrev b_X_box : ByteArray := prog_1_method_9_code
def y_X_demandIndex : MethodName := ⟨"VillageMail", "demandIndex", "(II)V"⟩
abbrev b_X_demandIndex : ByteArray := prog_1_method_37_code
def y_X_read : MethodName := ⟨"VillageMail", "read", "(IIII)I"⟩
abbrev b_X_read : ByteArray := prog_1_method_10_code
def y_X_remove : MethodName := ⟨"VillageMail", "remove", "(III)I"⟩
abbrev b_X_remove : ByteArray := prog_1_method_11_code
def y_X_shifted : MethodName := ⟨"VillageMail", "shifted", "(II)J"⟩
abbrev b_X_shifted : ByteArray := prog_1_method_45_code
def y_X_key : MethodName := ⟨"VillageMail", "key", "(I)Z"⟩
abbrev b_X_key : ByteArray := prog_1_method_12_code
def y_X_handOverText : MethodName := ⟨"VillageMail", "handOverText", "(LVillageMail$Store;I)V"⟩
abbrev b_X_handOverText : ByteArray := prog_1_method_14_code
def y_X_post : MethodName := ⟨"VillageMail", "post", "(IIII)I"⟩
abbrev b_X_post : ByteArray := prog_1_method_13_code
def y_X_status : MethodName := ⟨"VillageMail", "status", "(I)I"⟩
abbrev b_X_status : ByteArray := prog_1_method_15_code
def y_X_custodians : MethodName := ⟨"VillageMail", "custodians", "(I)I"⟩
abbrev b_X_custodians : ByteArray := prog_1_method_16_code
def y_X_promise : MethodName := ⟨"VillageMail", "promise", "(I)I"⟩
abbrev b_X_promise : ByteArray := prog_1_method_17_code
def y_X_dropCopies : MethodName := ⟨"VillageMail", "dropCopies", "(IZ)V"⟩
abbrev b_X_dropCopies : ByteArray := prog_1_method_20_code
def y_X_expireWhatIsDue : MethodName := ⟨"VillageMail", "expireWhatIsDue", "()V"⟩
abbrev b_X_expireWhatIsDue : ByteArray := prog_1_method_19_code
def y_X_minute : MethodName := ⟨"VillageMail", "minute", "(I)I"⟩
abbrev b_X_minute : ByteArray := prog_1_method_18_code
def y_X_shareTimetable : MethodName := ⟨"VillageMail", "shareTimetable", "(LVillageMail$Store;LVillageMail$Store;)V"⟩
abbrev b_X_shareTimetable : ByteArray := prog_1_method_26_code
def y_X_firmer : MethodName := ⟨"VillageMail", "firmer", "(II)I"⟩
abbrev b_X_firmer : ByteArray := prog_1_method_28_code
def y_X_shareNews : MethodName := ⟨"VillageMail", "shareNews", "(LVillageMail$Store;LVillageMail$Store;)V"⟩
abbrev b_X_shareNews : ByteArray := prog_1_method_27_code
def y_X_offerPiecesOf : MethodName := ⟨"VillageMail", "offerPiecesOf", "(III)V"⟩
abbrev b_X_offerPiecesOf : ByteArray := prog_1_method_30_code
def y_X_settleOffers : MethodName := ⟨"VillageMail", "settleOffers", "(II)V"⟩
abbrev b_X_settleOffers : ByteArray := prog_1_method_29_code
def y_X_movePiece : MethodName := ⟨"VillageMail", "movePiece", "(ILVillageMail$Store;LVillageMail$Store;)Z"⟩
abbrev b_X_movePiece : ByteArray := prog_1_method_32_code
def y_X_moveOffered : MethodName := ⟨"VillageMail", "moveOffered", "(LVillageMail$Offers;III)I"⟩
abbrev b_X_moveOffered : ByteArray := prog_1_method_31_code
def y_X_hold : MethodName := ⟨"VillageMail", "hold", "(III)I"⟩
abbrev b_X_hold : ByteArray := prog_1_method_25_code
def y_X_meet : MethodName := ⟨"VillageMail", "meet", "(III)I"⟩
abbrev b_X_meet : ByteArray := prog_1_method_23_code
def y_X_breakOff : MethodName := ⟨"VillageMail", "breakOff", "(III)I"⟩
abbrev b_X_breakOff : ByteArray := prog_1_method_24_code
def y_X_isStore : MethodName := ⟨"VillageMail", "isStore", "(I)Z"⟩
abbrev b_X_isStore : ByteArray := prog_1_method_41_code
def y_X_reboot : MethodName := ⟨"VillageMail", "reboot", "(I)V"⟩
abbrev b_X_reboot : ByteArray := prog_1_method_33_code
def y_X_spoil : MethodName := ⟨"VillageMail", "spoil", "(IIIII)I"⟩
abbrev b_X_spoil : ByteArray := prog_1_method_34_code
def y_X_store : MethodName := ⟨"VillageMail", "store", "(II)I"⟩
abbrev b_X_store : ByteArray := prog_1_method_35_code
def y_M_thrown : MethodName := ⟨"VillageMailModel", "thrown", "()I"⟩
abbrev b_M_thrown : ByteArray := prog_10_method_2_code
def y_M_upTo : MethodName := ⟨"VillageMailModel", "upTo", "(II)Z"⟩
abbrev b_M_upTo : ByteArray := prog_10_method_3_code
def y_M_isKiosk : MethodName := ⟨"VillageMailModel", "isKiosk", "(I)Z"⟩
abbrev b_M_isKiosk : ByteArray := prog_10_method_4_code
def y_M_isBus : MethodName := ⟨"VillageMailModel", "isBus", "(I)Z"⟩
abbrev b_M_isBus : ByteArray := prog_10_method_5_code
def y_M_isLetter : MethodName := ⟨"VillageMailModel", "isLetter", "(I)Z"⟩
abbrev b_M_isLetter : ByteArray := prog_10_method_6_code
def y_M_stopAt : MethodName := ⟨"VillageMailModel", "stopAt", "(II)I"⟩
abbrev b_M_stopAt : ByteArray := prog_10_method_7_code
def y_M_copyStop : MethodName := ⟨"VillageMailModel", "copyStop", "(II)V"⟩
abbrev b_M_copyStop : ByteArray := prog_10_method_8_code
def y_M_stop : MethodName := ⟨"VillageMailModel", "stop", "(III)I"⟩
abbrev b_M_stop : ByteArray := prog_10_method_9_code
def y_M_cancel : MethodName := ⟨"VillageMailModel", "cancel", "(II)Z"⟩
abbrev b_M_cancel : ByteArray := prog_10_method_10_code
def y_M_publish : MethodName := ⟨"VillageMailModel", "publish", "()I"⟩
abbrev b_M_publish : ByteArray := prog_10_method_11_code
def y_M_nextStop : MethodName := ⟨"VillageMailModel", "nextStop", "(II)I"⟩
abbrev b_M_nextStop : ByteArray := prog_10_method_12_code
def y_M_passes : MethodName := ⟨"VillageMailModel", "passes", "(III)Z"⟩
abbrev b_M_passes : ByteArray := prog_10_method_13_code
def y_M_arrival : MethodName := ⟨"VillageMailModel", "arrival", "(IIII)I"⟩
abbrev b_M_arrival : ByteArray := prog_10_method_14_code
def y_M_earlier : MethodName := ⟨"VillageMailModel", "earlier", "(II)Z"⟩
abbrev b_M_earlier : ByteArray := prog_10_method_15_code
def y_M_best : MethodName := ⟨"VillageMailModel", "best", "(III)I"⟩
abbrev b_M_best : ByteArray := prog_10_method_16_code
def y_M_pieces : MethodName := ⟨"VillageMailModel", "pieces", "(I)I"⟩
abbrev b_M_pieces : ByteArray := prog_10_method_17_code
def y_M_at : MethodName := ⟨"VillageMailModel", "at", "(III)I"⟩
abbrev b_M_at : ByteArray := prog_10_method_18_code
def y_M_room : MethodName := ⟨"VillageMailModel", "room", "(I)I"⟩
abbrev b_M_room : ByteArray := prog_10_method_19_code
def y_M_hear : MethodName := ⟨"VillageMailModel", "hear", "(II)V"⟩
abbrev b_M_hear : ByteArray := prog_10_method_20_code
def y_M_learn : MethodName := ⟨"VillageMailModel", "learn", "(III)V"⟩
abbrev b_M_learn : ByteArray := prog_10_method_21_code
def y_M_bytesIn : MethodName := ⟨"VillageMailModel", "bytesIn", "(I)I"⟩
abbrev b_M_bytesIn : ByteArray := prog_10_method_22_code
def y_M_isFor : MethodName := ⟨"VillageMailModel", "isFor", "(II)Z"⟩
abbrev b_M_isFor : ByteArray := prog_10_method_23_code
def y_M_complete : MethodName := ⟨"VillageMailModel", "complete", "(I)Z"⟩
abbrev b_M_complete : ByteArray := prog_10_method_24_code
def y_M_turned : MethodName := ⟨"VillageMailModel", "turned", "(I)I"⟩
abbrev b_M_turned : ByteArray := prog_10_method_25_code
def y_M_byteOf : MethodName := ⟨"VillageMailModel", "byteOf", "(III)I"⟩
abbrev b_M_byteOf : ByteArray := prog_10_method_26_code
def y_M_lookAt : MethodName := ⟨"VillageMailModel", "lookAt", "(I)V"⟩
abbrev b_M_lookAt : ByteArray := prog_10_method_27_code
def y_M_lookAll : MethodName := ⟨"VillageMailModel", "lookAll", "(I)V"⟩
abbrev b_M_lookAll : ByteArray := prog_10_method_28_code
def y_M_household : MethodName := ⟨"VillageMailModel", "household", "(III)V"⟩
abbrev b_M_household : ByteArray := prog_10_method_29_code
def y_M_group : MethodName := ⟨"VillageMailModel", "group", "(III)Z"⟩
abbrev b_M_group : ByteArray := prog_10_method_30_code
def y_M_key : MethodName := ⟨"VillageMailModel", "key", "(I)Z"⟩
abbrev b_M_key : ByteArray := prog_10_method_31_code
def y_M_post : MethodName := ⟨"VillageMailModel", "post", "(IIII)I"⟩
abbrev b_M_post : ByteArray := prog_10_method_32_code
def y_M_expire : MethodName := ⟨"VillageMailModel", "expire", "(I)V"⟩
abbrev b_M_expire : ByteArray := prog_10_method_33_code
def y_M_minute : MethodName := ⟨"VillageMailModel", "minute", "(I)I"⟩
abbrev b_M_minute : ByteArray := prog_10_method_34_code
def y_M_exchangeNews : MethodName := ⟨"VillageMailModel", "exchangeNews", "(II)V"⟩
abbrev b_M_exchangeNews : ByteArray := prog_10_method_35_code
def y_M_settle : MethodName := ⟨"VillageMailModel", "settle", "(II)V"⟩
abbrev b_M_settle : ByteArray := prog_10_method_36_code
def y_M_move : MethodName := ⟨"VillageMailModel", "move", "(IIII)Z"⟩
abbrev b_M_move : ByteArray := prog_10_method_37_code
def y_M_give : MethodName := ⟨"VillageMailModel", "give", "(IIII)I"⟩
abbrev b_M_give : ByteArray := prog_10_method_38_code
def y_M_meeting : MethodName := ⟨"VillageMailModel", "meeting", "(III)I"⟩
abbrev b_M_meeting : ByteArray := prog_10_method_39_code
def y_M_meet : MethodName := ⟨"VillageMailModel", "meet", "(III)I"⟩
abbrev b_M_meet : ByteArray := prog_10_method_40_code
def y_M_breakOff : MethodName := ⟨"VillageMailModel", "breakOff", "(III)I"⟩
abbrev b_M_breakOff : ByteArray := prog_10_method_41_code
def y_M_reboot : MethodName := ⟨"VillageMailModel", "reboot", "(I)V"⟩
abbrev b_M_reboot : ByteArray := prog_10_method_42_code
def y_M_spoil : MethodName := ⟨"VillageMailModel", "spoil", "(IIIII)I"⟩
abbrev b_M_spoil : ByteArray := prog_10_method_43_code
def y_M_isBox : MethodName := ⟨"VillageMailModel", "isBox", "(II)Z"⟩
abbrev b_M_isBox : ByteArray := prog_10_method_44_code
def y_M_box : MethodName := ⟨"VillageMailModel", "box", "(III)I"⟩
abbrev b_M_box : ByteArray := prog_10_method_45_code
def y_M_read : MethodName := ⟨"VillageMailModel", "read", "(IIII)I"⟩
abbrev b_M_read : ByteArray := prog_10_method_46_code
def y_M_remove : MethodName := ⟨"VillageMailModel", "remove", "(III)I"⟩
abbrev b_M_remove : ByteArray := prog_10_method_47_code
def y_M_status : MethodName := ⟨"VillageMailModel", "status", "(I)I"⟩
abbrev b_M_status : ByteArray := prog_10_method_48_code
def y_M_custodians : MethodName := ⟨"VillageMailModel", "custodians", "(I)I"⟩
abbrev b_M_custodians : ByteArray := prog_10_method_49_code
def y_M_promise : MethodName := ⟨"VillageMailModel", "promise", "(I)I"⟩
abbrev b_M_promise : ByteArray := prog_10_method_50_code
def y_M_store : MethodName := ⟨"VillageMailModel", "store", "(II)I"⟩
abbrev b_M_store : ByteArray := prog_10_method_51_code
def y_W_stop : MethodName := ⟨"VillageMailLaw", "stop", "(LVillageMail;III[J)I"⟩
abbrev b_W_stop : ByteArray := method_3_code
def y_W_publish : MethodName := ⟨"VillageMailLaw", "publish", "(LVillageMail;[J)I"⟩
abbrev b_W_publish : ByteArray := method_4_code
def y_W_household : MethodName := ⟨"VillageMailLaw", "household", "(LVillageMail;III)I"⟩
abbrev b_W_household : ByteArray := method_5_code
def y_W_group : MethodName := ⟨"VillageMailLaw", "group", "(LVillageMail;III[J)I"⟩
abbrev b_W_group : ByteArray := method_6_code
def y_W_post : MethodName := ⟨"VillageMailLaw", "post", "(LVillageMail;IIII[J)I"⟩
abbrev b_W_post : ByteArray := method_7_code
def y_W_minute : MethodName := ⟨"VillageMailLaw", "minute", "(LVillageMail;I[J)I"⟩
abbrev b_W_minute : ByteArray := method_8_code
def y_W_meet : MethodName := ⟨"VillageMailLaw", "meet", "(LVillageMail;III[J)I"⟩
abbrev b_W_meet : ByteArray := method_9_code
def y_W_breakOff : MethodName := ⟨"VillageMailLaw", "breakOff", "(LVillageMail;III[J)I"⟩
abbrev b_W_breakOff : ByteArray := method_10_code
def y_W_reboot : MethodName := ⟨"VillageMailLaw", "reboot", "(LVillageMail;I)I"⟩
abbrev b_W_reboot : ByteArray := method_11_code
def y_W_spoil : MethodName := ⟨"VillageMailLaw", "spoil", "(LVillageMail;IIIII[J)I"⟩
abbrev b_W_spoil : ByteArray := method_12_code
def y_W_box : MethodName := ⟨"VillageMailLaw", "box", "(LVillageMail;III[J)I"⟩
abbrev b_W_box : ByteArray := method_13_code
def y_W_read : MethodName := ⟨"VillageMailLaw", "read", "(LVillageMail;IIII[J)I"⟩
abbrev b_W_read : ByteArray := method_14_code
def y_W_remove : MethodName := ⟨"VillageMailLaw", "remove", "(LVillageMail;III[J)I"⟩
abbrev b_W_remove : ByteArray := method_15_code
def y_W_status : MethodName := ⟨"VillageMailLaw", "status", "(LVillageMail;I[J)I"⟩
abbrev b_W_status : ByteArray := method_16_code
def y_W_custodians : MethodName := ⟨"VillageMailLaw", "custodians", "(LVillageMail;I[J)I"⟩
abbrev b_W_custodians : ByteArray := method_17_code
def y_W_promise : MethodName := ⟨"VillageMailLaw", "promise", "(LVillageMail;I[J)I"⟩
abbrev b_W_promise : ByteArray := method_18_code
def y_W_best : MethodName := ⟨"VillageMailLaw", "best", "(LVillageMail;III[J)I"⟩
abbrev b_W_best : ByteArray := method_19_code
def y_W_store : MethodName := ⟨"VillageMailLaw", "store", "(LVillageMail;II[J)I"⟩
abbrev b_W_store : ByteArray := method_20_code
def y_A_fill : MethodName := ⟨"java/util/Arrays", "fill", "([II)V"⟩
abbrev b_A_fill : ByteArray := prog_19_method_103_code
def y_A_fillJ : MethodName := ⟨"java/util/Arrays", "fill", "([JJ)V"⟩
abbrev b_A_fillJ : ByteArray := prog_19_method_101_code

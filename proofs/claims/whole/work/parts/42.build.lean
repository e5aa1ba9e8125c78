-- while the cells are being made: how many there are stands at row 99
def bb_rf (f : Int32) (a : Nat) : Value := if f = 0 then .null else .ref a
def tb_ord : List (Nat × Nat) := [(0, 0), (1, 7), (2, 7), (3, 7), (4, 7), (5, 0), (1, 0), (2, 0), (3, 0), (4, 0), (1, 1), (2, 1), (3, 1), (4, 1), (1, 2), (2, 2), (3, 2), (4, 2), (1, 3), (2, 3), (3, 3), (4, 3), (1, 4), (2, 4), (3, 4), (4, 4), (1, 5), (2, 5), (3, 5), (4, 5), (1, 6), (2, 6), (3, 6), (4, 6), (6, 0), (7, 0), (8, 0), (9, 0), (10, 0), (11, 0), (7, 1), (8, 1), (9, 1), (10, 1), (11, 1), (7, 2), (8, 2), (9, 2), (10, 2), (11, 2), (7, 3), (8, 3), (9, 3), (10, 3), (11, 3), (7, 4), (8, 4), (9, 4), (10, 4), (11, 4), (7, 5), (8, 5), (9, 5), (10, 5), (11, 5), (7, 6), (8, 6), (9, 6), (10, 6), (11, 6), (7, 7), (8, 7), (9, 7), (10, 7), (11, 7), (7, 8), (8, 8), (9, 8), (10, 8), (11, 8), (7, 9), (8, 9), (9, 9), (10, 9), (11, 9), (7, 10), (8, 10), (9, 10), (10, 10), (11, 10), (7, 11), (8, 11), (9, 11), (10, 11), (11, 11), (12, 0), (13, 0), (14, 0), (16, 0), (17, 0), (16, 1), (17, 1), (16, 2), (17, 2), (15, 0), (13, 1), (14, 1), (16, 3), (17, 3), (16, 4), (17, 4), (16, 5), (17, 5), (15, 1), (13, 2), (14, 2), (16, 6), (17, 6), (16, 7), (17, 7), (16, 8), (17, 8), (15, 2), (13, 3), (14, 3), (16, 9), (17, 9), (16, 10), (17, 10), (16, 11), (17, 11), (15, 3), (13, 4), (14, 4), (16, 12), (17, 12), (16, 13), (17, 13), (16, 14), (17, 14), (15, 4), (13, 5), (14, 5), (16, 15), (17, 15), (16, 16), (17, 16), (16, 17), (17, 17), (15, 5), (13, 6), (14, 6), (16, 18), (17, 18), (16, 19), (17, 19), (16, 20), (17, 20), (15, 6), (13, 7), (14, 7), (16, 21), (17, 21), (16, 22), (17, 22), (16, 23), (17, 23), (15, 7), (18, 0), (19, 0), (20, 0), (19, 1), (20, 1), (19, 2), (20, 2), (19, 3), (20, 3), (19, 4), (20, 4), (19, 5), (20, 5), (19, 6), (20, 6), (19, 7), (20, 7), (19, 8), (20, 8), (19, 9), (20, 9), (19, 10), (20, 10), (19, 11), (20, 11), (19, 12), (20, 12), (19, 13), (20, 13), (19, 14), (20, 14), (19, 15), (20, 15), (21, 0), (22, 0), (23, 0), (24, 0), (25, 0), (22, 1), (23, 1), (24, 1), (25, 1), (26, 0), (27, 0), (26, 1), (27, 1), (30, 0), (31, 0), (32, 0), (33, 0), (34, 0), (35, 0), (36, 0), (37, 0), (38, 0), (39, 0), (40, 0), (41, 0), (42, 0), (43, 0), (44, 0), (45, 0), (46, 0), (47, 0), (48, 0), (49, 0), (50, 0), (51, 0), (52, 0), (53, 0), (54, 0), (55, 0), (56, 0), (57, 0), (58, 0), (59, 0), (60, 0), (61, 0), (70, 0)]
def tb_op (F i : Nat) : Nat := tb_ord.idxOf (F, i)
def tb_sz (F : Nat) : Nat := match F with
  | 0 => 16
  | 1 => 4
  | 2 => 24
  | 3 => 24
  | 4 => 24
  | 5 => 7
  | 6 => 12
  | 7 => 9
  | 8 => 64
  | 9 => 64
  | 10 => 64
  | 11 => 16
  | 12 => 8
  | 13 => 2
  | 14 => 3
  | 15 => 2
  | 16 => 4
  | 17 => 16
  | 18 => 16
  | 19 => 11
  | 20 => 4
  | 21 => 4
  | 22 => 3
  | 23 => 8
  | 24 => 8
  | 25 => 4
  | 26 => 2
  | 27 => 24
  | 30 => 38
  | 31 => 192
  | 32 => 192
  | 33 => 192
  | 34 => 8
  | 35 => 12
  | 36 => 16
  | 37 => 16
  | 38 => 16
  | 39 => 16
  | 40 => 16
  | 41 => 16
  | 42 => 16
  | 43 => 16
  | 44 => 16
  | 45 => 512
  | 46 => 768
  | 47 => 768
  | 48 => 768
  | 49 => 6144
  | 50 => 192
  | 51 => 12
  | 52 => 12
  | 53 => 24
  | 54 => 24
  | 55 => 384
  | 56 => 48
  | 57 => 32
  | 58 => 4
  | 59 => 8
  | 60 => 128
  | 61 => 8
  | 70 => 1
  | _ => 0
def cbR (K : KK) (F i : Nat) (r : Nat → Int32) (q : Nat → Int64) : va_E := match F with
  | 0 => .inr (7, [.int (r 0), bb_rf (r 1) (aa K 1 7), bb_rf (r 2) (aa K 5 0), .int (r 3), bb_rf (r 4) (aa K 6 0), bb_rf (r 5) (aa K 12 0), bb_rf (r 6) (aa K 18 0), .int (r 7), bb_rf (r 8) (aa K 21 0), .int (r 9), bb_rf (r 10) (aa K 22 0), bb_rf (r 11) (aa K 22 1), bb_rf (r 12) (aa K 26 0), bb_rf (r 13) (aa K 26 1), .int (r 14), .int (r 15)])
  | 1 => .inr (6, [bb_rf (r 0) (aa K 2 i), bb_rf (r 1) (aa K 3 i), bb_rf (r 2) (aa K 4 i), .int (r 3)])
  | 2 => .inl (K.2.2.1 0, 24, .inl r)
  | 3 => .inl (K.2.2.1 0, 24, .inl r)
  | 4 => .inl (K.2.2.1 0, 24, .inl r)
  | 5 => .inl (K.2.2.1 3, 7, .inr (.inr (.inr (.inr (fun j => if r j = 0 then none else some (aa K 1 j))))))
  | 6 => .inl (K.2.2.1 4, 12, .inr (.inr (.inr (.inr (fun j => if r j = 0 then none else some (aa K 7 j))))))
  | 7 => .inr (5, [.int (r 0), bb_rf (r 1) (aa K 8 i), bb_rf (r 2) (aa K 9 i), bb_rf (r 3) (aa K 10 i), bb_rf (r 4) (aa K 11 i), .int (r 5), .int (r 6), .int (r 7), .int (r 8)])
  | 8 => .inl (K.2.2.1 0, 64, .inl r)
  | 9 => .inl (K.2.2.1 0, 64, .inl r)
  | 10 => .inl (K.2.2.1 1, 64, .inr (.inl q))
  | 11 => .inl (K.2.2.1 0, 16, .inl r)
  | 12 => .inl (K.2.2.1 5, 8, .inr (.inr (.inr (.inr (fun j => if r j = 0 then none else some (aa K 13 j))))))
  | 13 => .inr (1, [bb_rf (r 0) (aa K 14 i), bb_rf (r 1) (aa K 15 i)])
  | 14 => .inl (K.2.2.1 6, 3, .inr (.inr (.inr (.inr (fun j => if r j = 0 then none else some (aa K 16 (3 * i + j)))))))
  | 15 => .inl (K.2.2.1 0, 2, .inl r)
  | 16 => .inr (0, [bb_rf (r 0) (aa K 17 i), .int (r 1), .int (r 2), .int (r 3)])
  | 17 => .inl (K.2.2.1 0, 16, .inl r)
  | 18 => .inl (K.2.2.1 7, 16, .inr (.inr (.inr (.inr (fun j => if r j = 0 then none else some (aa K 19 j))))))
  | 19 => .inr (2, [.int (r 0), .int (r 1), .int (r 2), .int (r 3), .int (r 4), .int (r 5), .int (r 6), .int (r 7), .int (r 8), .int (r 9), bb_rf (r 10) (aa K 20 i)])
  | 20 => .inl (K.2.2.1 1, 4, .inr (.inl q))
  | 21 => .inl (K.2.2.1 1, 4, .inr (.inl q))
  | 22 => .inr (4, [bb_rf (r 0) (aa K 23 i), bb_rf (r 1) (aa K 24 i), bb_rf (r 2) (aa K 25 i)])
  | 23 => .inl (K.2.2.1 0, 8, .inl r)
  | 24 => .inl (K.2.2.1 0, 8, .inl r)
  | 25 => .inl (K.2.2.1 2, 4, .inl r)
  | 26 => .inr (3, [bb_rf (r 0) (aa K 27 i), .int (r 1)])
  | 27 => .inl (K.2.2.1 0, 24, .inl r)
  | 30 => .inr (8, [bb_rf (r 0) (aa K 31 0), bb_rf (r 1) (aa K 32 0), bb_rf (r 2) (aa K 33 0), bb_rf (r 3) (aa K 34 0), .int (r 4), .int (r 5), bb_rf (r 6) (aa K 35 0), .int (r 7), bb_rf (r 8) (aa K 36 0), bb_rf (r 9) (aa K 37 0), bb_rf (r 10) (aa K 38 0), bb_rf (r 11) (aa K 39 0), bb_rf (r 12) (aa K 40 0), bb_rf (r 13) (aa K 41 0), bb_rf (r 14) (aa K 42 0), bb_rf (r 15) (aa K 43 0), bb_rf (r 16) (aa K 44 0), bb_rf (r 17) (aa K 45 0), bb_rf (r 18) (aa K 46 0), bb_rf (r 19) (aa K 47 0), bb_rf (r 20) (aa K 48 0), bb_rf (r 21) (aa K 49 0), bb_rf (r 22) (aa K 50 0), bb_rf (r 23) (aa K 51 0), bb_rf (r 24) (aa K 52 0), bb_rf (r 25) (aa K 53 0), bb_rf (r 26) (aa K 54 0), bb_rf (r 27) (aa K 55 0), bb_rf (r 28) (aa K 56 0), bb_rf (r 29) (aa K 57 0), .int (r 30), .int (r 31), bb_rf (r 32) (aa K 58 0), bb_rf (r 33) (aa K 59 0), bb_rf (r 34) (aa K 60 0), .int (r 35), .int (r 36), bb_rf (r 37) (aa K 61 0)])
  | 31 => .inl (K.2.2.1 0, 192, .inl r)
  | 32 => .inl (K.2.2.1 0, 192, .inl r)
  | 33 => .inl (K.2.2.1 0, 192, .inl r)
  | 34 => .inl (K.2.2.1 0, 8, .inl r)
  | 35 => .inl (K.2.2.1 0, 12, .inl r)
  | 36 => .inl (K.2.2.1 0, 16, .inl r)
  | 37 => .inl (K.2.2.1 0, 16, .inl r)
  | 38 => .inl (K.2.2.1 0, 16, .inl r)
  | 39 => .inl (K.2.2.1 0, 16, .inl r)
  | 40 => .inl (K.2.2.1 0, 16, .inl r)
  | 41 => .inl (K.2.2.1 0, 16, .inl r)
  | 42 => .inl (K.2.2.1 0, 16, .inl r)
  | 43 => .inl (K.2.2.1 0, 16, .inl r)
  | 44 => .inl (K.2.2.1 2, 16, .inl r)
  | 45 => .inl (K.2.2.1 0, 512, .inl r)
  | 46 => .inl (K.2.2.1 2, 768, .inl r)
  | 47 => .inl (K.2.2.1 0, 768, .inl r)
  | 48 => .inl (K.2.2.1 0, 768, .inl r)
  | 49 => .inl (K.2.2.1 0, 6144, .inl r)
  | 50 => .inl (K.2.2.1 0, 192, .inl r)
  | 51 => .inl (K.2.2.1 0, 12, .inl r)
  | 52 => .inl (K.2.2.1 0, 12, .inl r)
  | 53 => .inl (K.2.2.1 0, 24, .inl r)
  | 54 => .inl (K.2.2.1 0, 24, .inl r)
  | 55 => .inl (K.2.2.1 0, 384, .inl r)
  | 56 => .inl (K.2.2.1 2, 48, .inl r)
  | 57 => .inl (K.2.2.1 0, 32, .inl r)
  | 58 => .inl (K.2.2.1 2, 4, .inl r)
  | 59 => .inl (K.2.2.1 0, 8, .inl r)
  | 60 => .inl (K.2.2.1 2, 128, .inl r)
  | 61 => .inl (K.2.2.1 0, 8, .inl r)
  | 70 => .inl (K.2.2.1 1, 1, .inr (.inl q))
  | _ => .inr (0, [])
def kn (σ : Mem) : Nat := (σ.1 99 0 0).toNatClampNeg
def SL (n : Nat) : Nat := ((tb_ord.take n).map fun c => tb_sz c.1).sum
def cb (K : KK) (σ : Mem) (F i : Nat) : va_E := cbR K F i (σ.1 F i) (σ.2 F i)
def FB (K : KK) (σ : Mem) : va_W := (tb_ord.take (kn σ)).map fun c => (aa K c.1 c.2, cb K σ c.1 c.2)
def AB (K : KK) : Nat → Prop := fun q => K.1 ≤ q
def KA (K : KK) : Prop := ∀ (n : Nat) (c : Nat × Nat), tb_ord[n]? = some c → aa K c.1 c.2 = K.1 + n
def aoL : List String := ["VillageMail$Timetable", "VillageMail$Store", "VillageMail$Boxes", "VillageMail$Box", "VillageMail$Letter"]
def AOs (U : State) : Prop := ∀ C ∈ aoL, va_AO C U
def BWd (K : KK) (σ : Mem) (U : State) : Prop := va_P K.2.1 vwCl (FB K σ) U.heap ∧ U.heap.size = K.1 + kn σ ∧ va_K K.2.1 vwCl (tyL K.2.2.1) U ∧ AOs U
def PcB (K : KK) (av : List Value) (σ : Mem) : Array Value → State → Prop := fun a U => a = av.toArray ∧ BWd K σ U
def QcB (K : KK) (q : Mem) : Array Value → State → Outcome → State → Prop := fun _ st oc t => oc = .returned none ∧ BWd K q t ∧ va_F (AB K) st t
def CtB (l : Launch) (K : KK) (y : MethodName) (b : ByteArray) (mL fr lo : Nat) (av : List Value) (σ q : Mem) : Prop := KA K → kn σ ≤ kn q ∧ kn q ≤ 247 → Met l y (.code y b mL none :: wAll) { frames := fr, cells := kn q - kn σ, slots := SL (kn q) - SL (kn σ), locals := lo } (PcB K av σ) (QcB K q) (kn q - kn σ) (SL (kn q) - SL (kn σ)) (AB K)
def GB (K : KK) (Γ : Cx) (cc : ByteArray) (own : String) (nL fr lo : Nat) : Prop := match Γ with
  | (p, _, _, R, s, m, args, _, meth, c, _, c0, s0) => p.tables.exec = Jvm.exec ∧ c.code = cc ∧ c.maxLocals = nL ∧ s.vm.findClass own = some m.cls ∧ (∀ w ∈ wAll, w.before args s = true) ∧ va_K K.2.1 vwCl (tyL K.2.2.1) s ∧ (fr ≤ R.frames ∧ lo ≤ R.locals) ∧ meth.locks = false ∧ KA K ∧ (s0 ≤ R.cells + c0 ∧ SL s0 ≤ R.slots + SL c0) ∧ AOs s ∧ s.heap.size = K.1 + c0
def EndsB (K : KK) (Γ : Cx) (nm : String) (kB kE : Nat) (q : Mem) : Prop := match Γ with
  | (_, _, _, _, s, _, args, below, meth, _, Q, c0, s0) => Q = MQ below (QcB K q) args s (kE - kB) (SL kE - SL kB) (AB K) ∧ meth.sig.returnType = none ∧ meth.name = nm ∧ c0 = kB ∧ s0 = kE ∧ kn q = kE
def WB (K : KK) (Γ : Cx) (σ : Mem) (pc : Nat) (L : List (Nat × Value)) (S : List Value) : Prop := match Γ with
  | (p, l, e, R, s, m, args, below, meth, c, Q, c0, _) => ∀ (H : Heap) (locs : List Loc) (ls : Array Slot), lv_has ls c.maxLocals L → va_P K.2.1 vwCl (FB K σ) H → va_D (AB K) (FB K σ) → va_S (AB K) s.heap H locs → W p l e R s m args below meth c H locs (kn σ - c0) (SL (kn σ) - SL c0) Q (F0 m pc ls S)
-- what the making does, in steps
def bb_zr (σ : Mem) (F i : Nat) : Mem := (fun F' i' k' => if F' = 99 ∧ i' = 0 ∧ k' = 0 then nI (kn σ + 1) else if F' = F ∧ i' = i then 0 else σ.1 F' i' k', fun F' i' k' => if F' = F ∧ i' = i then 0 else σ.2 F' i' k')
def bb_nw (kB kE F i : Nat) (σ : Mem) (k : Mem → RR) : RR := if kB ≤ kn σ ∧ kn σ < kE ∧ tb_ord[kn σ]? = some (F, i) then k (bb_zr σ F i) else none
def bb_on (σ : Mem) (F i : Nat) (a : RR) : RR := if tb_op F i < kn σ ∧ F < 72 ∧ i < cnt F then a else none
def bb_gr (σ : Mem) (F i q : Nat) (a : RR) : RR := bb_on σ F i (if σ.1 F i q = 0 then none else a)
def bb_pr (σ : Mem) (F i q : Nat) (k : Mem → RR) : RR := bb_on σ F i (k (mm_wI σ F i q 1))
def bb_pf (σ : Mem) (F i q : Nat) (v : Int32) (k : Mem → RR) : RR := bb_on σ F i (k (mm_wI σ F i q v))
def bb_st (σ : Mem) (F i N : Nat) (x v : Int32) (k : Mem → RR) : RR := bb_on σ F i (mm_st σ F i N x v k)
def bb_sr (σ : Mem) (F i N : Nat) (x : Int32) (k : Mem → RR) : RR := bb_on σ F i (if x < 0 ∨ N ≤ x.toNatClampNeg then none else k (mm_wI σ F i x.toNatClampNeg 1))
def bb_cV (kB kE kE1 : Nat) (a : RR) (σ : Mem) (k : Mem → RR) : RR := match a with
  | some (.inr none, q) => if kB ≤ kn σ ∧ kn σ ≤ kE1 ∧ kE1 ≤ kE ∧ kn q = kE1 then k q else none
  | _ => none

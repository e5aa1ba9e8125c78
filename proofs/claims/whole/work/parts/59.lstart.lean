-- ===== end of PART A; then your names; then what follows =====
/-! THE CLAIM OUT OF ONE WALK OF THE LAW'S BODY. Your part is whole_start (and what it stands on); all else here is the same for every law, but numbers. -/
def R_law : String := "VillageMailLaw"
def lw_P (b : Addr) (xs : List Int32) (args : Array Value) (s : State) : Prop := args = #[.ref b] ∧ s.IntsAt b xs ∧ xs.length ≤ 3072 ∧ (Jvm.Cond.and given_1 narrow_1).before args s = true
def lw_Q (_ : Array Value) (s : State) (o : Outcome) (t : State) : Prop := o = .returned (some (.int 1)) ∧ Framed s o t [] 601024 7293033
def lw_Z (below : List Frame) (a : Array Value) (s : State) : State → Prop := fun t => ∃ o, t.status = .running ∧ Ended t below o ∧ lw_Q a s o t
/-- the law's own end, with 1 on the stack, nothing written that was there before, its room as the claim has it -/
theorem lw_ret {p : Program} {l : Launch} {e : Env} {s : State} {m : MethodId} {below : List Frame} {meth : Method} {c : Code} {b : Nat} (hx : p.tables.exec = Jvm.exec) (hb : c.code = code) (hr : meth.sig.returnType = ret) (hlocks : meth.locks = false) {pc : Nat} {H : Heap} {ls : Array Slot} (hdg : decode code pc = .ok (.ireturn, 1)) : W p l e room_1 s m #[Value.ref b] below meth c H [] 601024 7293033 (lw_Z below #[Value.ref b] s) (F0 m pc ls [.int 1]) := by
  intro T hT X
  obtain ⟨fs, hret, hrun, hended, hW, hframe⟩ := X.leave (v := some (.int 1)) (hlocks := hlocks) (fun h => by rw [hr] at h; cases h)
  have hmeth' : T.vm.method? m = some meth := X.method'
  refine ⟨T.setFrames fs, ?_, .returned (some (.int 1)), hrun, hended, rfl, ⟨_, rfl⟩, hW, hframe⟩
  jvm_step X.here [X.here.top, hx, hb, hdg, hmeth', hr, ret, narrow_b1]
  (try refine ⟨rfl, ?_⟩); (try refine ⟨rfl, ?_⟩)
  first | (intro acts; rw [hret _ acts rfl rfl rfl]) | rw [hret _ _ rfl rfl rfl]
  exact Steps.refl _
/-- what holds at the law's entry: the machine, the code, the tables' words (any of lw_tbl by 'hts w (by decide +kernel)'), the script of L ints xs at the cell b, what the Statement gives of the start (any of its parts by flat_of_before) -/
def lw_At (p : Program) (s : State) (m : MethodId) (meth : Method) (c : Code) (b L : Nat) (xs : Nat → Int32) : Prop :=
  p.tables.exec = Jvm.exec ∧ c.code = code ∧ meth.sig.returnType = ret ∧ c.maxLocals = 7 ∧ s.vm.findClass R_law = some m.cls ∧ (∀ w ∈ lw_tbl, w.before #[Value.ref b] s = true) ∧ va_X b L xs s s.heap ∧ b < s.heap.size ∧ meth.locks = false ∧ (Jvm.Cond.and given_1 narrow_1).before #[Value.ref b] s = true
theorem d_W_law_1491 : decode b_W_law 1491 = .ok (.iconst 1, 1) := by decide +kernel
theorem d_W_law_1492 : decode b_W_law 1492 = .ok (.ireturn, 1) := by decide +kernel
def z0 : Mem := (fun _ _ _ => 0, fun _ _ _ => 0)
set_option maxRecDepth 100000 in
theorem SL_all : SL 247 ≤ 100000 := by decide +kernel
set_option maxRecDepth 100000 in
set_option maxHeartbeats 4000000 in
/-- the whole walk, from the entry to the law's end, given what the pure side says -/
theorem law_start {p : Program} {e : Env} {s : State} {m : MethodId} {below : List Frame} {meth : Method} {c : Code} (l : Launch) (hst : l.stackTraces = false) {b L : Nat} {xs : Nat → Int32} (C0 : lw_At p s m meth c b L xs)
    {s1 q : Mem} (hp1 : f_W_pre mm_rv z0 = some (.inr none, s1)) (hfl : Fl s1) (hp2 : lp_W_law xs L (fun s => mm_rz 1 s) 600 0 s1 = some (.inr (some (.int 1)), q)) :
    W p l e room_1 s m #[Value.ref b] below meth c s.heap [] 0 0 (lw_Z below #[Value.ref b] s) (entryFrame m ([Value.ref b] : List Value).toArray 7) := by
  obtain ⟨hx, hb, hrt, hml, hown, hts0, hX, hbl, hlk, hgv⟩ := C0
  have hts : ∀ w ∈ wAll, w.before #[Value.ref b] s = true := fun w hw => hts0 w (List.mem_filter.mp hw).1
  have hAO : AOs s := fun C hC => va_AO.of (hts0 _ (vw_ao C hC))
  obtain ⟨D, tc, hK⟩ := K_of hts (fun c q h => ⟨(vw_in c q h).1, (vw_in c q h).2.elim fun n hn => ⟨n, hts _ hn⟩⟩) ⟨hts _ vw_ac.1, hts _ vw_ac.2.1, hts _ vw_ac.2.2⟩ hAO
  have hgf := flat_of_before _ hgv
  have hno : ∀ a, a < s.heap.size → ¬ AK (lawK b s.heap.size D tc) a := fun a ha h => Nat.not_le.mpr ha (lawK_AK h)
  have hU : StU (lawK b s.heap.size D tc) s s.heap := Sta_of (hts0 _ vw_ls.1) (hgf _ (by decide +kernel)) hno
  have hN : StN (lawK b s.heap.size D tc) s s.heap := by
    refine ⟨Sta_of (hts0 _ vw_ls.2) (hgf _ (by decide +kernel)) hno, fun w hw => ?_, va_Nc.of (hgf _ (by decide +kernel)), va_Nc.of (hgf _ (by decide +kernel)), va_Nc.of (hgf _ (by decide +kernel))⟩
    have h9 := hts0 w (vw_nw w hw)
    simp only [xs_nw, List.mem_cons, List.not_mem_nil, or_false] at hw
    rcases hw with rfl | rfl | rfl | rfl | rfl | rfl | rfl <;> exact h9
  have hA71 : aa (lawK b s.heap.size D tc) 71 0 = b := rfl
  have hKA : KA (lawK b s.heap.size D tc) := lawK_KA
  generalize hKe : lawK b s.heap.size D tc = K at *
  have hK1 : K.1 = s.heap.size := by rw [← hKe]; rfl
  have hKK : va_K K.2.1 vwCl (tyL K.2.2.1) s := by rw [← hKe]; exact hK
  have hG0 : GB K (p, l, e, room_1, s, m, #[Value.ref b], below, meth, c, lw_Z below #[Value.ref b] s, 0, 247) b_W_law "VillageMailLaw" 7 11 418 :=
    ⟨hx, hb, hml, hown, hts, hKK, ⟨by decide, by decide⟩, hlk, hKA, ⟨by decide, by have := SL_all; have h2 : room_1.slots = 7293033 := rfl; omega⟩, hAO, by rw [hK1]; rfl⟩
  have hG1 : Good K (p, l, e, room_1, s, m, #[Value.ref b], below, meth, c, lw_Z below #[Value.ref b] s, 247, SL 247) b_W_law "VillageMailLaw" 7 11 418 :=
    ⟨hx, hb, hml, hown, hts, hKK, ⟨by decide, by decide, by decide, by have := SL_all; have h2 : room_1.slots = 7293033 := rfl; omega⟩, hlk, trivial, hst, hU, hN⟩
  have hAKge : ∀ a, AK K a → s.heap.size ≤ a := fun a h => Nat.le_of_not_lt fun h9 => hno a h9 h
  have hSX : SXl K (p, l, e, room_1, s, m, #[Value.ref b], below, meth, c, lw_Z below #[Value.ref b] s, 247, SL 247) xs L := by
    refine ⟨?_, ?_, ?_⟩
    · rw [hA71]; exact hX
    · rw [hA71]; exact hbl
    · rw [hA71]; exact hno b hbl
  have hNR : ∀ n, n ≤ 600000 → NR (p, l, e, room_1, s, m, #[Value.ref b], below, meth, c, lw_Z below #[Value.ref b] s, 247, SL 247) n := by
    intro n hn
    have := SL_all
    have h2 : room_1.slots = 7293033 := rfl
    have h3 : room_1.cells = 601024 := rfl
    exact ⟨by omega, by omega⟩
  have hRET : ∀ (n : Nat) (s' : Mem) (pc : Nat) (Lv : List (Nat × Value)) (v : Int32), n ≤ 600000 → decode b_W_law pc = .ok (.ireturn, 1) → mm_rz v s' = some (.inr (some (.int 1)), q) → WW K (p, l, e, room_1, s, m, #[Value.ref b], below, meth, c, lw_Z below #[Value.ref b] s, 247, SL 247) n s' pc Lv [.int v] := by
    intro n s' pc Lv v hn hd hr
    have hv : v = 1 := by
      unfold mm_rz at hr
      split at hr
      · cases hr; rfl
      · cases hr
    subst hv
    intro H locs ls hl hP hD hS
    refine va_forget (fun z hz => hAKge _ (hS.2.2 z hz)) ?_
    have := SL_all
    exact W.widen (by omega) (by omega) (lw_ret hx hb hrt hlk hd)
  have hmain := lp_W_law_ok xs L (fun s => mm_rz 1 s) hG1 hSX hNR hRET (fun n s' hn hk => by
    refine ww_iconst (v := (1 : Int32)) hG1 d_W_law_1491 ic_1 ?_
    exact hRET n s' 1492 [] 1 hn d_W_law_1492 hk) 600 0 0 s1 (by decide) hp2
  have hpre := f_W_pre_ok hG0 ⟨rfl, rfl⟩ hp1 (fun s' h' => by
    have h9 : s' = s1 := by cases h'; rfl
    subst h9
    intro H locs ls hl hP hD hS
    refine va_forget (fun z hz => by have := hS.2.2 z hz; unfold AB at this; rw [hK1] at this; exact this) ?_
    have h1 := hmain H [] ls hl (FL_of hfl hP) (FL_D hKA) ⟨hS.1, fun a h1 h2 => hS.2.1 a h1 (fun h3 => by unfold AB at h3; rw [hK1] at h3; omega), fun z hz => nomatch hz⟩
    rw [hfl.1]
    have h2 : SL 247 - SL 0 = SL 247 + 6 * 0 := rfl
    rw [h2]
    exact h1)
  rw [lg_entry_eq]
  have hFB : FB K z0 = [] := by unfold FB; rw [show kn z0 = 0 by decide]; rfl
  have hL7 : lv_has (lg_sl [Value.ref b] ++ List.replicate (7 - (lg_sl [Value.ref b]).length) Slot.unset).toArray c.maxLocals [(0, Value.ref (aa K 71 0))] := by
    rw [hml, hA71]; exact lv_entry [Value.ref b] (n := 7) (Nat.le_of_ble_eq_true rfl)
  have h8 := hpre s.heap [] _ hL7 (by rw [hFB]; exact fun k z hz => nomatch hz) (FB_D hKA) va_S.rf
  rw [show kn z0 - 0 = 0 by decide, show SL (kn z0) - SL 0 = 0 by decide] at h8
  exact h8

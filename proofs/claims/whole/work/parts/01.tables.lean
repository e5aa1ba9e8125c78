-- ===== PART A: goes FIRST, ahead of the names: the tables' words, and 'selects' of the private methods out of them =====
/-- a private method of a class that the tables say can be made, by its rows of tables_1 -/
def lw_okq (q : MethodName × Nat) : Prop := (q.1.cls ≠ "java/lang/invoke/MethodHandle" ∧ q.1.cls ≠ "java/lang/invoke/VarHandle") ∧ Cond.instantiable q.1.cls q.2 ∈ tables_1 ∧ Cond.privateMethod q.1 ∈ tables_1 ∧ Cond.instanceMethod q.1 ∈ tables_1
theorem lw_p0 : lw_okq (⟨"java/lang/Throwable", "fillInStackTrace", "(I)Ljava/lang/Throwable;"⟩, 6) := ⟨⟨by decide +kernel, by decide +kernel⟩, List.mem_of_getElem? (i := 345) (by decide +kernel), List.mem_of_getElem? (i := 343) (by decide +kernel), List.mem_of_getElem? (i := 344) (by decide +kernel)⟩
theorem lw_p1 : lw_okq (⟨"VillageMail", "lookAtAllOf", "(I)V"⟩, 16) := ⟨⟨by decide +kernel, by decide +kernel⟩, List.mem_of_getElem? (i := 21) (by decide +kernel), List.mem_of_getElem? (i := 410) (by decide +kernel), List.mem_of_getElem? (i := 411) (by decide +kernel)⟩
theorem lw_p2 : lw_okq (⟨"VillageMail", "lookAt", "(I)V"⟩, 16) := ⟨⟨by decide +kernel, by decide +kernel⟩, List.mem_of_getElem? (i := 21) (by decide +kernel), List.mem_of_getElem? (i := 414) (by decide +kernel), List.mem_of_getElem? (i := 415) (by decide +kernel)⟩
theorem lw_p3 : lw_okq (⟨"VillageMail", "arrival", "(IIII)I"⟩, 16) := ⟨⟨by decide +kernel, by decide +kernel⟩, List.mem_of_getElem? (i := 21) (by decide +kernel), List.mem_of_getElem? (i := 492) (by decide +kernel), List.mem_of_getElem? (i := 493) (by decide +kernel)⟩
theorem lw_p4 : lw_okq (⟨"VillageMail", "handOverText", "(LVillageMail$Store;I)V"⟩, 16) := ⟨⟨by decide +kernel, by decide +kernel⟩, List.mem_of_getElem? (i := 21) (by decide +kernel), List.mem_of_getElem? (i := 518) (by decide +kernel), List.mem_of_getElem? (i := 519) (by decide +kernel)⟩
theorem lw_p5 : lw_okq (⟨"VillageMail", "expireWhatIsDue", "()V"⟩, 16) := ⟨⟨by decide +kernel, by decide +kernel⟩, List.mem_of_getElem? (i := 21) (by decide +kernel), List.mem_of_getElem? (i := 536) (by decide +kernel), List.mem_of_getElem? (i := 537) (by decide +kernel)⟩
theorem lw_p6 : lw_okq (⟨"VillageMail", "dropCopies", "(IZ)V"⟩, 16) := ⟨⟨by decide +kernel, by decide +kernel⟩, List.mem_of_getElem? (i := 21) (by decide +kernel), List.mem_of_getElem? (i := 540) (by decide +kernel), List.mem_of_getElem? (i := 541) (by decide +kernel)⟩
theorem lw_p7 : lw_okq (⟨"VillageMail", "hold", "(III)I"⟩, 16) := ⟨⟨by decide +kernel, by decide +kernel⟩, List.mem_of_getElem? (i := 21) (by decide +kernel), List.mem_of_getElem? (i := 552) (by decide +kernel), List.mem_of_getElem? (i := 553) (by decide +kernel)⟩
theorem lw_p8 : lw_okq (⟨"VillageMail", "shareNews", "(LVillageMail$Store;LVillageMail$Store;)V"⟩, 16) := ⟨⟨by decide +kernel, by decide +kernel⟩, List.mem_of_getElem? (i := 21) (by decide +kernel), List.mem_of_getElem? (i := 562) (by decide +kernel), List.mem_of_getElem? (i := 563) (by decide +kernel)⟩
theorem lw_p9 : lw_okq (⟨"VillageMail", "settleOffers", "(II)V"⟩, 16) := ⟨⟨by decide +kernel, by decide +kernel⟩, List.mem_of_getElem? (i := 21) (by decide +kernel), List.mem_of_getElem? (i := 573) (by decide +kernel), List.mem_of_getElem? (i := 574) (by decide +kernel)⟩
theorem lw_p10 : lw_okq (⟨"VillageMail", "offerPiecesOf", "(III)V"⟩, 16) := ⟨⟨by decide +kernel, by decide +kernel⟩, List.mem_of_getElem? (i := 21) (by decide +kernel), List.mem_of_getElem? (i := 581) (by decide +kernel), List.mem_of_getElem? (i := 582) (by decide +kernel)⟩
theorem lw_p11 : lw_okq (⟨"VillageMail", "moveOffered", "(LVillageMail$Offers;III)I"⟩, 16) := ⟨⟨by decide +kernel, by decide +kernel⟩, List.mem_of_getElem? (i := 21) (by decide +kernel), List.mem_of_getElem? (i := 590) (by decide +kernel), List.mem_of_getElem? (i := 591) (by decide +kernel)⟩
theorem lw_p12 : lw_okq (⟨"VillageMailModel", "stopAt", "(II)I"⟩, 38) := ⟨⟨by decide +kernel, by decide +kernel⟩, List.mem_of_getElem? (i := 728) (by decide +kernel), List.mem_of_getElem? (i := 866) (by decide +kernel), List.mem_of_getElem? (i := 867) (by decide +kernel)⟩
theorem lw_p13 : lw_okq (⟨"VillageMailModel", "copyStop", "(II)V"⟩, 38) := ⟨⟨by decide +kernel, by decide +kernel⟩, List.mem_of_getElem? (i := 728) (by decide +kernel), List.mem_of_getElem? (i := 874) (by decide +kernel), List.mem_of_getElem? (i := 875) (by decide +kernel)⟩
theorem lw_p14 : lw_okq (⟨"VillageMailModel", "arrival", "(IIII)I"⟩, 38) := ⟨⟨by decide +kernel, by decide +kernel⟩, List.mem_of_getElem? (i := 728) (by decide +kernel), List.mem_of_getElem? (i := 887) (by decide +kernel), List.mem_of_getElem? (i := 888) (by decide +kernel)⟩
theorem lw_p15 : lw_okq (⟨"VillageMailModel", "nextStop", "(II)I"⟩, 38) := ⟨⟨by decide +kernel, by decide +kernel⟩, List.mem_of_getElem? (i := 728) (by decide +kernel), List.mem_of_getElem? (i := 892) (by decide +kernel), List.mem_of_getElem? (i := 893) (by decide +kernel)⟩
def lw_privs_1 : List (MethodName × Nat) := [(⟨"java/lang/Throwable", "fillInStackTrace", "(I)Ljava/lang/Throwable;"⟩, 6), (⟨"VillageMail", "lookAtAllOf", "(I)V"⟩, 16), (⟨"VillageMail", "lookAt", "(I)V"⟩, 16), (⟨"VillageMail", "arrival", "(IIII)I"⟩, 16), (⟨"VillageMail", "handOverText", "(LVillageMail$Store;I)V"⟩, 16), (⟨"VillageMail", "expireWhatIsDue", "()V"⟩, 16), (⟨"VillageMail", "dropCopies", "(IZ)V"⟩, 16), (⟨"VillageMail", "hold", "(III)I"⟩, 16), (⟨"VillageMail", "shareNews", "(LVillageMail$Store;LVillageMail$Store;)V"⟩, 16), (⟨"VillageMail", "settleOffers", "(II)V"⟩, 16), (⟨"VillageMail", "offerPiecesOf", "(III)V"⟩, 16), (⟨"VillageMail", "moveOffered", "(LVillageMail$Offers;III)I"⟩, 16), (⟨"VillageMailModel", "stopAt", "(II)I"⟩, 38), (⟨"VillageMailModel", "copyStop", "(II)V"⟩, 38), (⟨"VillageMailModel", "arrival", "(IIII)I"⟩, 38), (⟨"VillageMailModel", "nextStop", "(II)I"⟩, 38)]
theorem lw_r1 : ∀ q ∈ lw_privs_1, lw_okq q := List.forall_mem_cons.mpr ⟨lw_p0, List.forall_mem_cons.mpr ⟨lw_p1, List.forall_mem_cons.mpr ⟨lw_p2, List.forall_mem_cons.mpr ⟨lw_p3, List.forall_mem_cons.mpr ⟨lw_p4, List.forall_mem_cons.mpr ⟨lw_p5, List.forall_mem_cons.mpr ⟨lw_p6, List.forall_mem_cons.mpr ⟨lw_p7, List.forall_mem_cons.mpr ⟨lw_p8, List.forall_mem_cons.mpr ⟨lw_p9, List.forall_mem_cons.mpr ⟨lw_p10, List.forall_mem_cons.mpr ⟨lw_p11, List.forall_mem_cons.mpr ⟨lw_p12, List.forall_mem_cons.mpr ⟨lw_p13, List.forall_mem_cons.mpr ⟨lw_p14, List.forall_mem_cons.mpr ⟨lw_p15, fun _ h => absurd h List.not_mem_nil⟩⟩⟩⟩⟩⟩⟩⟩⟩⟩⟩⟩⟩⟩⟩⟩
theorem lw_p16 : lw_okq (⟨"VillageMailModel", "passes", "(III)Z"⟩, 38) := ⟨⟨by decide +kernel, by decide +kernel⟩, List.mem_of_getElem? (i := 728) (by decide +kernel), List.mem_of_getElem? (i := 896) (by decide +kernel), List.mem_of_getElem? (i := 897) (by decide +kernel)⟩
theorem lw_p17 : lw_okq (⟨"VillageMailModel", "lookAll", "(I)V"⟩, 38) := ⟨⟨by decide +kernel, by decide +kernel⟩, List.mem_of_getElem? (i := 728) (by decide +kernel), List.mem_of_getElem? (i := 904) (by decide +kernel), List.mem_of_getElem? (i := 905) (by decide +kernel)⟩
theorem lw_p18 : lw_okq (⟨"VillageMailModel", "lookAt", "(I)V"⟩, 38) := ⟨⟨by decide +kernel, by decide +kernel⟩, List.mem_of_getElem? (i := 728) (by decide +kernel), List.mem_of_getElem? (i := 908) (by decide +kernel), List.mem_of_getElem? (i := 909) (by decide +kernel)⟩
theorem lw_p19 : lw_okq (⟨"VillageMailModel", "complete", "(I)Z"⟩, 38) := ⟨⟨by decide +kernel, by decide +kernel⟩, List.mem_of_getElem? (i := 728) (by decide +kernel), List.mem_of_getElem? (i := 912) (by decide +kernel), List.mem_of_getElem? (i := 913) (by decide +kernel)⟩
theorem lw_p20 : lw_okq (⟨"VillageMailModel", "pieces", "(I)I"⟩, 38) := ⟨⟨by decide +kernel, by decide +kernel⟩, List.mem_of_getElem? (i := 728) (by decide +kernel), List.mem_of_getElem? (i := 916) (by decide +kernel), List.mem_of_getElem? (i := 917) (by decide +kernel)⟩
theorem lw_p21 : lw_okq (⟨"VillageMailModel", "byteOf", "(III)I"⟩, 38) := ⟨⟨by decide +kernel, by decide +kernel⟩, List.mem_of_getElem? (i := 728) (by decide +kernel), List.mem_of_getElem? (i := 926) (by decide +kernel), List.mem_of_getElem? (i := 927) (by decide +kernel)⟩
theorem lw_p22 : lw_okq (⟨"VillageMailModel", "learn", "(III)V"⟩, 38) := ⟨⟨by decide +kernel, by decide +kernel⟩, List.mem_of_getElem? (i := 728) (by decide +kernel), List.mem_of_getElem? (i := 930) (by decide +kernel), List.mem_of_getElem? (i := 931) (by decide +kernel)⟩
theorem lw_p23 : lw_okq (⟨"VillageMailModel", "isFor", "(II)Z"⟩, 38) := ⟨⟨by decide +kernel, by decide +kernel⟩, List.mem_of_getElem? (i := 728) (by decide +kernel), List.mem_of_getElem? (i := 934) (by decide +kernel), List.mem_of_getElem? (i := 935) (by decide +kernel)⟩
theorem lw_p24 : lw_okq (⟨"VillageMailModel", "bytesIn", "(I)I"⟩, 38) := ⟨⟨by decide +kernel, by decide +kernel⟩, List.mem_of_getElem? (i := 728) (by decide +kernel), List.mem_of_getElem? (i := 938) (by decide +kernel), List.mem_of_getElem? (i := 939) (by decide +kernel)⟩
theorem lw_p25 : lw_okq (⟨"VillageMailModel", "room", "(I)I"⟩, 38) := ⟨⟨by decide +kernel, by decide +kernel⟩, List.mem_of_getElem? (i := 728) (by decide +kernel), List.mem_of_getElem? (i := 954) (by decide +kernel), List.mem_of_getElem? (i := 955) (by decide +kernel)⟩
theorem lw_p26 : lw_okq (⟨"VillageMailModel", "expire", "(I)V"⟩, 38) := ⟨⟨by decide +kernel, by decide +kernel⟩, List.mem_of_getElem? (i := 728) (by decide +kernel), List.mem_of_getElem? (i := 962) (by decide +kernel), List.mem_of_getElem? (i := 963) (by decide +kernel)⟩
theorem lw_p27 : lw_okq (⟨"VillageMailModel", "meeting", "(III)I"⟩, 38) := ⟨⟨by decide +kernel, by decide +kernel⟩, List.mem_of_getElem? (i := 728) (by decide +kernel), List.mem_of_getElem? (i := 970) (by decide +kernel), List.mem_of_getElem? (i := 971) (by decide +kernel)⟩
theorem lw_p28 : lw_okq (⟨"VillageMailModel", "exchangeNews", "(II)V"⟩, 38) := ⟨⟨by decide +kernel, by decide +kernel⟩, List.mem_of_getElem? (i := 728) (by decide +kernel), List.mem_of_getElem? (i := 974) (by decide +kernel), List.mem_of_getElem? (i := 975) (by decide +kernel)⟩
theorem lw_p29 : lw_okq (⟨"VillageMailModel", "hear", "(II)V"⟩, 38) := ⟨⟨by decide +kernel, by decide +kernel⟩, List.mem_of_getElem? (i := 728) (by decide +kernel), List.mem_of_getElem? (i := 978) (by decide +kernel), List.mem_of_getElem? (i := 979) (by decide +kernel)⟩
theorem lw_p30 : lw_okq (⟨"VillageMailModel", "settle", "(II)V"⟩, 38) := ⟨⟨by decide +kernel, by decide +kernel⟩, List.mem_of_getElem? (i := 728) (by decide +kernel), List.mem_of_getElem? (i := 982) (by decide +kernel), List.mem_of_getElem? (i := 983) (by decide +kernel)⟩
theorem lw_p31 : lw_okq (⟨"VillageMailModel", "give", "(IIII)I"⟩, 38) := ⟨⟨by decide +kernel, by decide +kernel⟩, List.mem_of_getElem? (i := 728) (by decide +kernel), List.mem_of_getElem? (i := 989) (by decide +kernel), List.mem_of_getElem? (i := 990) (by decide +kernel)⟩
def lw_privs_2 : List (MethodName × Nat) := [(⟨"VillageMailModel", "passes", "(III)Z"⟩, 38), (⟨"VillageMailModel", "lookAll", "(I)V"⟩, 38), (⟨"VillageMailModel", "lookAt", "(I)V"⟩, 38), (⟨"VillageMailModel", "complete", "(I)Z"⟩, 38), (⟨"VillageMailModel", "pieces", "(I)I"⟩, 38), (⟨"VillageMailModel", "byteOf", "(III)I"⟩, 38), (⟨"VillageMailModel", "learn", "(III)V"⟩, 38), (⟨"VillageMailModel", "isFor", "(II)Z"⟩, 38), (⟨"VillageMailModel", "bytesIn", "(I)I"⟩, 38), (⟨"VillageMailModel", "room", "(I)I"⟩, 38), (⟨"VillageMailModel", "expire", "(I)V"⟩, 38), (⟨"VillageMailModel", "meeting", "(III)I"⟩, 38), (⟨"VillageMailModel", "exchangeNews", "(II)V"⟩, 38), (⟨"VillageMailModel", "hear", "(II)V"⟩, 38), (⟨"VillageMailModel", "settle", "(II)V"⟩, 38), (⟨"VillageMailModel", "give", "(IIII)I"⟩, 38)]
theorem lw_r2 : ∀ q ∈ lw_privs_2, lw_okq q := List.forall_mem_cons.mpr ⟨lw_p16, List.forall_mem_cons.mpr ⟨lw_p17, List.forall_mem_cons.mpr ⟨lw_p18, List.forall_mem_cons.mpr ⟨lw_p19, List.forall_mem_cons.mpr ⟨lw_p20, List.forall_mem_cons.mpr ⟨lw_p21, List.forall_mem_cons.mpr ⟨lw_p22, List.forall_mem_cons.mpr ⟨lw_p23, List.forall_mem_cons.mpr ⟨lw_p24, List.forall_mem_cons.mpr ⟨lw_p25, List.forall_mem_cons.mpr ⟨lw_p26, List.forall_mem_cons.mpr ⟨lw_p27, List.forall_mem_cons.mpr ⟨lw_p28, List.forall_mem_cons.mpr ⟨lw_p29, List.forall_mem_cons.mpr ⟨lw_p30, List.forall_mem_cons.mpr ⟨lw_p31, fun _ h => absurd h List.not_mem_nil⟩⟩⟩⟩⟩⟩⟩⟩⟩⟩⟩⟩⟩⟩⟩⟩
theorem lw_p32 : lw_okq (⟨"VillageMailModel", "move", "(IIII)Z"⟩, 38) := ⟨⟨by decide +kernel, by decide +kernel⟩, List.mem_of_getElem? (i := 728) (by decide +kernel), List.mem_of_getElem? (i := 993) (by decide +kernel), List.mem_of_getElem? (i := 994) (by decide +kernel)⟩
theorem lw_p33 : lw_okq (⟨"VillageMailModel", "isLetter", "(I)Z"⟩, 38) := ⟨⟨by decide +kernel, by decide +kernel⟩, List.mem_of_getElem? (i := 728) (by decide +kernel), List.mem_of_getElem? (i := 1009) (by decide +kernel), List.mem_of_getElem? (i := 1010) (by decide +kernel)⟩
def lw_privs_3 : List (MethodName × Nat) := [(⟨"VillageMailModel", "move", "(IIII)Z"⟩, 38), (⟨"VillageMailModel", "isLetter", "(I)Z"⟩, 38)]
theorem lw_r3 : ∀ q ∈ lw_privs_3, lw_okq q := List.forall_mem_cons.mpr ⟨lw_p32, List.forall_mem_cons.mpr ⟨lw_p33, fun _ h => absurd h List.not_mem_nil⟩⟩
def lw_privs : List (MethodName × Nat) := lw_privs_1 ++ (lw_privs_2 ++ (lw_privs_3))
def lw_tbl : List Cond := k2_sels lw_privs ++ tables_1
theorem lw_privs_ok : ∀ q ∈ lw_privs, lw_okq q := by
  show ∀ q ∈ lw_privs_1 ++ (lw_privs_2 ++ (lw_privs_3)), lw_okq q
  exact List.forall_mem_append.mpr ⟨lw_r1, List.forall_mem_append.mpr ⟨lw_r2, lw_r3⟩⟩
-- the words that every method takes: those of the tables that no run moves
def wAll : List Cond := lw_tbl.filter goodWord
theorem wa_at {w : Cond} {i : Nat} (h : tables_1[i]? = some w) (g : goodWord w = true) : w ∈ wAll := List.mem_filter.mpr ⟨List.mem_append_right _ (List.mem_of_getElem? h), g⟩
theorem wa_all {ws : List Cond} (ps : List Nat) (hp : ws = ps.filterMap (fun i => tables_1[i]?)) (hg : ws.all goodWord = true) : ∀ w ∈ ws, w ∈ wAll := by
  intro w hw
  have h1 := List.all_eq_true.mp hg w hw
  rw [hp] at hw
  obtain ⟨i, -, hi⟩ := List.mem_filterMap.mp hw
  exact wa_at hi h1
theorem wa_sel {y : MethodName} {n : Nat} (h : (y, n) ∈ lw_privs) : Cond.selects y.cls y y ∈ wAll := by
  refine List.mem_filter.mpr ⟨List.mem_append_left _ ?_, rfl⟩
  exact List.mem_map.mpr ⟨(y, n), h, rfl⟩
theorem wa_good {w : Cond} (h : w ∈ wAll) : goodWord w = true := (List.mem_filter.mp h).2
theorem gd_of {ws : List Cond} (h : ∀ w ∈ ws, w ∈ wAll) : GoodIn wAll ws := fun w hw => ⟨h w hw, good_of_word (wa_good (h w hw))⟩
theorem gd_v {own : String} {idx : Nat} {y : MethodName} {b : ByteArray} {mL : Nat} {rt : Option FieldType} (h1 : Cond.methodLink own idx y ∈ wAll) (h2 : Cond.instanceMethod y ∈ wAll) (h3 : Cond.selects y.cls y y ∈ wAll) (h4 : Cond.initialized y.cls ∈ wAll) (h5 : Cond.code y b mL rt ∈ wAll) : GoodIn wAll (wsV own idx y.cls y (.code y b mL rt :: wAll)) := by
  refine gd_of fun w hw => ?_
  unfold wsV at hw
  simp only [List.cons_append, List.nil_append, List.mem_cons] at hw
  rcases hw with rfl | rfl | rfl | rfl | rfl | hw
  · exact h1
  · exact h2
  · exact h3
  · exact h4
  · exact h5
  · exact hw
theorem gd_s {own : String} {idx : Nat} {y : MethodName} {b : ByteArray} {mL : Nat} {rt : Option FieldType} (h1 : Cond.methodLink own idx y ∈ wAll) (h2 : Cond.static y ∈ wAll) (h4 : Cond.initialized y.cls ∈ wAll) (h5 : Cond.code y b mL rt ∈ wAll) : GoodIn wAll (va_wsS own idx y (.code y b mL rt :: wAll)) := by
  refine gd_of fun w hw => ?_
  unfold va_wsS at hw
  simp only [List.cons_append, List.nil_append, List.mem_cons] at hw
  rcases hw with rfl | rfl | rfl | rfl | hw
  · exact h1
  · exact h2
  · exact h4
  · exact h5
  · exact hw
def T_B : u_T := fun k => match k with
  | 0 => ("VillageMail$Box", "letters", "[I", true)
  | 1 => ("VillageMail$Box", "count", "I", false)
  | 2 => ("VillageMail$Box", "bytes", "I", false)
  | _ => ("VillageMail$Box", "quota", "I", false)
def ty_B : Nat → FieldType := fun k => match k with
  | 0 => .array .int
  | 1 => .int
  | 2 => .int
  | _ => .int
set_option maxRecDepth 100000 in
theorem nm_B : ∀ a, a < 4 → ∀ b, b < 4 → a ≠ b → (T_B a).2.1 ≠ (T_B b).2.1 := by decide +kernel
theorem tk_B : ∀ k, k < 4 → parseFieldDescriptor (T_B k).2.2.1 = some (ty_B k) := by decide +kernel
set_option maxRecDepth 100000 in
theorem in_B : ∀ w ∈ u_ws "VillageMail$Box" T_B 4, w ∈ wAll := wa_all [119, 121, 123, 125] (by decide +kernel) (by decide +kernel)
def T_C : u_T := fun k => match k with
  | 0 => ("VillageMail$Boxes", "each", "[LVillageMail$Box;", true)
  | _ => ("VillageMail$Boxes", "groups", "[I", true)
def ty_C : Nat → FieldType := fun k => match k with
  | 0 => .array (.object "VillageMail$Box")
  | _ => .array .int
set_option maxRecDepth 100000 in
theorem nm_C : ∀ a, a < 2 → ∀ b, b < 2 → a ≠ b → (T_C a).2.1 ≠ (T_C b).2.1 := by decide +kernel
theorem tk_C : ∀ k, k < 2 → parseFieldDescriptor (T_C k).2.2.1 = some (ty_C k) := by decide +kernel
set_option maxRecDepth 100000 in
theorem in_C : ∀ w ∈ u_ws "VillageMail$Boxes" T_C 2, w ∈ wAll := wa_all [131, 133] (by decide +kernel) (by decide +kernel)
def T_L : u_T := fun k => match k with
  | 0 => ("VillageMail$Letter", "from", "I", false)
  | 1 => ("VillageMail$Letter", "goal", "I", false)
  | 2 => ("VillageMail$Letter", "box", "I", false)
  | 3 => ("VillageMail$Letter", "sort", "I", false)
  | 4 => ("VillageMail$Letter", "posted", "I", false)
  | 5 => ("VillageMail$Letter", "promised", "I", false)
  | 6 => ("VillageMail$Letter", "length", "I", false)
  | 7 => ("VillageMail$Letter", "sum", "I", false)
  | 8 => ("VillageMail$Letter", "isOver", "Z", false)
  | 9 => ("VillageMail$Letter", "expired", "Z", false)
  | _ => ("VillageMail$Letter", "received", "[J", true)
def ty_L : Nat → FieldType := fun k => match k with
  | 0 => .int
  | 1 => .int
  | 2 => .int
  | 3 => .int
  | 4 => .int
  | 5 => .int
  | 6 => .int
  | 7 => .int
  | 8 => .boolean
  | 9 => .boolean
  | _ => .array .long
set_option maxRecDepth 100000 in
theorem nm_L : ∀ a, a < 11 → ∀ b, b < 11 → a ≠ b → (T_L a).2.1 ≠ (T_L b).2.1 := by decide +kernel
theorem tk_L : ∀ k, k < 11 → parseFieldDescriptor (T_L k).2.2.1 = some (ty_L k) := by decide +kernel
set_option maxRecDepth 100000 in
theorem in_L : ∀ w ∈ u_ws "VillageMail$Letter" T_L 11, w ∈ wAll := wa_all [155, 157, 159, 161, 163, 165, 167, 169, 171, 173, 175] (by decide +kernel) (by decide +kernel)
def T_O : u_T := fun k => match k with
  | 0 => ("VillageMail$Offers", "pieces", "[I", true)
  | _ => ("VillageMail$Offers", "count", "I", false)
def ty_O : Nat → FieldType := fun k => match k with
  | 0 => .array .int
  | _ => .int
set_option maxRecDepth 100000 in
theorem nm_O : ∀ a, a < 2 → ∀ b, b < 2 → a ≠ b → (T_O a).2.1 ≠ (T_O b).2.1 := by decide +kernel
theorem tk_O : ∀ k, k < 2 → parseFieldDescriptor (T_O k).2.2.1 = some (ty_O k) := by decide +kernel
set_option maxRecDepth 100000 in
theorem in_O : ∀ w ∈ u_ws "VillageMail$Offers" T_O 2, w ∈ wAll := wa_all [206, 208] (by decide +kernel) (by decide +kernel)
def T_R : u_T := fun k => match k with
  | 0 => ("VillageMail$Ride", "came", "[I", true)
  | 1 => ("VillageMail$Ride", "canLeave", "[I", true)
  | _ => ("VillageMail$Ride", "aboard", "[Z", true)
def ty_R : Nat → FieldType := fun k => match k with
  | 0 => .array .int
  | 1 => .array .int
  | _ => .array .boolean
set_option maxRecDepth 100000 in
theorem nm_R : ∀ a, a < 3 → ∀ b, b < 3 → a ≠ b → (T_R a).2.1 ≠ (T_R b).2.1 := by decide +kernel
theorem tk_R : ∀ k, k < 3 → parseFieldDescriptor (T_R k).2.2.1 = some (ty_R k) := by decide +kernel
set_option maxRecDepth 100000 in
theorem in_R : ∀ w ∈ u_ws "VillageMail$Ride" T_R 3, w ∈ wAll := wa_all [188, 190, 192] (by decide +kernel) (by decide +kernel)
def T_S : u_T := fun k => match k with
  | 0 => ("VillageMail$Store", "capacity", "I", true)
  | 1 => ("VillageMail$Store", "hops", "[I", true)
  | 2 => ("VillageMail$Store", "news", "[I", true)
  | 3 => ("VillageMail$Store", "bytes", "[J", true)
  | 4 => ("VillageMail$Store", "known", "[I", true)
  | 5 => ("VillageMail$Store", "copies", "I", false)
  | 6 => ("VillageMail$Store", "timetable", "I", false)
  | 7 => ("VillageMail$Store", "expiredLetters", "I", false)
  | _ => ("VillageMail$Store", "refusals", "I", false)
def ty_S : Nat → FieldType := fun k => match k with
  | 0 => .int
  | 1 => .array .int
  | 2 => .array .int
  | 3 => .array .long
  | 4 => .array .int
  | 5 => .int
  | 6 => .int
  | 7 => .int
  | _ => .int
set_option maxRecDepth 100000 in
theorem nm_S : ∀ a, a < 9 → ∀ b, b < 9 → a ≠ b → (T_S a).2.1 ≠ (T_S b).2.1 := by decide +kernel
theorem tk_S : ∀ k, k < 9 → parseFieldDescriptor (T_S k).2.2.1 = some (ty_S k) := by decide +kernel
set_option maxRecDepth 100000 in
theorem in_S : ∀ w ∈ u_ws "VillageMail$Store" T_S 9, w ∈ wAll := wa_all [77, 79, 81, 83, 85, 87, 89, 91, 93] (by decide +kernel) (by decide +kernel)
def T_T : u_T := fun k => match k with
  | 0 => ("VillageMail$Timetable", "buses", "[I", true)
  | 1 => ("VillageMail$Timetable", "kiosks", "[I", true)
  | 2 => ("VillageMail$Timetable", "minutes", "[I", true)
  | _ => ("VillageMail$Timetable", "count", "I", false)
def ty_T : Nat → FieldType := fun k => match k with
  | 0 => .array .int
  | 1 => .array .int
  | 2 => .array .int
  | _ => .int
set_option maxRecDepth 100000 in
theorem nm_T : ∀ a, a < 4 → ∀ b, b < 4 → a ≠ b → (T_T a).2.1 ≠ (T_T b).2.1 := by decide +kernel
theorem tk_T : ∀ k, k < 4 → parseFieldDescriptor (T_T k).2.2.1 = some (ty_T k) := by decide +kernel
set_option maxRecDepth 100000 in
theorem in_T : ∀ w ∈ u_ws "VillageMail$Timetable" T_T 4, w ∈ wAll := wa_all [43, 45, 47, 49] (by decide +kernel) (by decide +kernel)
def T_X : u_T := fun k => match k with
  | 0 => ("VillageMail", "clock", "I", false)
  | 1 => ("VillageMail", "draft", "LVillageMail$Timetable;", true)
  | 2 => ("VillageMail", "published", "[LVillageMail$Timetable;", true)
  | 3 => ("VillageMail", "publications", "I", false)
  | 4 => ("VillageMail", "stores", "[LVillageMail$Store;", true)
  | 5 => ("VillageMail", "boxes", "[LVillageMail$Boxes;", true)
  | 6 => ("VillageMail", "letters", "[LVillageMail$Letter;", true)
  | 7 => ("VillageMail", "letterCount", "I", false)
  | 8 => ("VillageMail", "text", "[J", true)
  | 9 => ("VillageMail", "textLength", "I", false)
  | 10 => ("VillageMail", "fromKiosk", "LVillageMail$Ride;", true)
  | 11 => ("VillageMail", "fromBus", "LVillageMail$Ride;", true)
  | 12 => ("VillageMail", "busOffers", "LVillageMail$Offers;", true)
  | 13 => ("VillageMail", "kioskOffers", "LVillageMail$Offers;", true)
  | 14 => ("VillageMail", "lastGiver", "I", false)
  | _ => ("VillageMail", "lastPiece", "I", false)
def ty_X : Nat → FieldType := fun k => match k with
  | 0 => .int
  | 1 => .object "VillageMail$Timetable"
  | 2 => .array (.object "VillageMail$Timetable")
  | 3 => .int
  | 4 => .array (.object "VillageMail$Store")
  | 5 => .array (.object "VillageMail$Boxes")
  | 6 => .array (.object "VillageMail$Letter")
  | 7 => .int
  | 8 => .array .long
  | 9 => .int
  | 10 => .object "VillageMail$Ride"
  | 11 => .object "VillageMail$Ride"
  | 12 => .object "VillageMail$Offers"
  | 13 => .object "VillageMail$Offers"
  | 14 => .int
  | _ => .int
set_option maxRecDepth 100000 in
theorem nm_X : ∀ a, a < 16 → ∀ b, b < 16 → a ≠ b → (T_X a).2.1 ≠ (T_X b).2.1 := by decide +kernel
theorem tk_X : ∀ k, k < 16 → parseFieldDescriptor (T_X k).2.2.1 = some (ty_X k) := by decide +kernel
set_option maxRecDepth 100000 in
theorem in_X : ∀ w ∈ u_ws "VillageMail" T_X 16, w ∈ wAll := wa_all [227, 229, 231, 233, 235, 237, 239, 241, 243, 245, 247, 249, 251, 253, 255, 257] (by decide +kernel) (by decide +kernel)
def T_M : u_T := fun k => match k with
  | 0 => ("VillageMailModel", "stopBus", "[I", true)
  | 1 => ("VillageMailModel", "stopKiosk", "[I", true)
  | 2 => ("VillageMailModel", "stopMinute", "[I", true)
  | 3 => ("VillageMailModel", "stops", "[I", true)
  | 4 => ("VillageMailModel", "published", "I", false)
  | 5 => ("VillageMailModel", "now", "I", false)
  | 6 => ("VillageMailModel", "held", "[I", true)
  | 7 => ("VillageMailModel", "letters", "I", false)
  | 8 => ("VillageMailModel", "size", "[I", true)
  | 9 => ("VillageMailModel", "sort", "[I", true)
  | 10 => ("VillageMailModel", "origin", "[I", true)
  | 11 => ("VillageMailModel", "goal", "[I", true)
  | 12 => ("VillageMailModel", "address", "[I", true)
  | 13 => ("VillageMailModel", "posted", "[I", true)
  | 14 => ("VillageMailModel", "sum", "[I", true)
  | 15 => ("VillageMailModel", "promised", "[I", true)
  | 16 => ("VillageMailModel", "expired", "[Z", true)
  | 17 => ("VillageMailModel", "delivered", "[I", true)
  | 18 => ("VillageMailModel", "copy", "[Z", true)
  | 19 => ("VillageMailModel", "hops", "[I", true)
  | 20 => ("VillageMailModel", "news", "[I", true)
  | 21 => ("VillageMailModel", "bytes", "[I", true)
  | 22 => ("VillageMailModel", "known", "[I", true)
  | 23 => ("VillageMailModel", "expiredAt", "[I", true)
  | 24 => ("VillageMailModel", "refusals", "[I", true)
  | 25 => ("VillageMailModel", "quota", "[I", true)
  | 26 => ("VillageMailModel", "lying", "[I", true)
  | 27 => ("VillageMailModel", "lies", "[I", true)
  | 28 => ("VillageMailModel", "member", "[Z", true)
  | 29 => ("VillageMailModel", "text", "[I", true)
  | 30 => ("VillageMailModel", "textLong", "I", false)
  | 31 => ("VillageMailModel", "thrown", "I", false)
  | 32 => ("VillageMailModel", "riding", "[Z", true)
  | 33 => ("VillageMailModel", "from", "[I", true)
  | 34 => ("VillageMailModel", "offered", "[Z", true)
  | 35 => ("VillageMailModel", "gift", "I", false)
  | 36 => ("VillageMailModel", "giftHops", "I", false)
  | _ => ("VillageMailModel", "giftBytes", "[I", true)
def ty_M : Nat → FieldType := fun k => match k with
  | 0 => .array .int
  | 1 => .array .int
  | 2 => .array .int
  | 3 => .array .int
  | 4 => .int
  | 5 => .int
  | 6 => .array .int
  | 7 => .int
  | 8 => .array .int
  | 9 => .array .int
  | 10 => .array .int
  | 11 => .array .int
  | 12 => .array .int
  | 13 => .array .int
  | 14 => .array .int
  | 15 => .array .int
  | 16 => .array .boolean
  | 17 => .array .int
  | 18 => .array .boolean
  | 19 => .array .int
  | 20 => .array .int
  | 21 => .array .int
  | 22 => .array .int
  | 23 => .array .int
  | 24 => .array .int
  | 25 => .array .int
  | 26 => .array .int
  | 27 => .array .int
  | 28 => .array .boolean
  | 29 => .array .int
  | 30 => .int
  | 31 => .int
  | 32 => .array .boolean
  | 33 => .array .int
  | 34 => .array .boolean
  | 35 => .int
  | 36 => .int
  | _ => .array .int
set_option maxRecDepth 100000 in
theorem nm_M : ∀ a, a < 38 → ∀ b, b < 38 → a ≠ b → (T_M a).2.1 ≠ (T_M b).2.1 := by decide +kernel
theorem tk_M : ∀ k, k < 38 → parseFieldDescriptor (T_M k).2.2.1 = some (ty_M k) := by decide +kernel
set_option maxRecDepth 100000 in
theorem in_M : ∀ w ∈ u_ws "VillageMailModel" T_M 38, w ∈ wAll := wa_all [771, 773, 775, 777, 779, 781, 783, 785, 787, 789, 791, 793, 795, 797, 799, 801, 803, 805, 807, 809, 811, 813, 815, 817, 819, 821, 823, 825, 827, 829, 831, 833, 835, 837, 839, 841, 843, 845] (by decide +kernel) (by decide +kernel)
abbrev vwCl : List vw_C := [("VillageMail$Box", T_B, 4), ("VillageMail$Boxes", T_C, 2), ("VillageMail$Letter", T_L, 11), ("VillageMail$Offers", T_O, 2), ("VillageMail$Ride", T_R, 3), ("VillageMail$Store", T_S, 9), ("VillageMail$Timetable", T_T, 4), ("VillageMail", T_X, 16), ("VillageMailModel", T_M, 38)]

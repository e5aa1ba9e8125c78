section
-- ===== PART A: goes FIRST, ahead of the names: the tables' words, and 'selects' of the private methods out of them =====
/-- a private method of a class that the tables say can be made, by its rows of tables_1 -/
def lw_okq (q : MethodName × Nat) : Prop := (q.1.cls ≠ "java/lang/invoke/MethodHandle" ∧ q.1.cls ≠ "java/lang/invoke/VarHandle") ∧ Cond.instantiable q.1.cls q.2 ∈ tables_1 ∧ Cond.privateMethod q.1 ∈ tables_1 ∧ Cond.instanceMethod q.1 ∈ tables_1
theorem lw_p0 : lw_okq (⟨"java/lang/Throwable", "fillInStackTrace", "(I)Ljava/lang/Throwable;"⟩, 6) := ⟨⟨by decide +kernel, by decide +kernel⟩, List.mem_of_getElem? (i := 345) (by decide +kernel), List.mem_of_getElem? (i := 343) (by decide +kernel), List.mem_of_getElem? (i := 344) (by decide +kernel)⟩
theorem lw_p1 : lw_okq (⟨"VillageMail", "lookAtAllOf", "(I)V"⟩, 16) := ⟨⟨by decide +kernel, by decide +kernel⟩, List.mem_of_getElem? (i := 21) (by decide +kernel), List.mem_of_getElem? (i := 410) (by decide +kernel), List.mem_of_getElem? (i := 411) (by decide +kernel)⟩
theorem lw_p2 : lw_okq (⟨"VillageMail", "lookAt", "(I)V"⟩, 16) := ⟨⟨by decide +kernel, by decide +kernel⟩, List.mem_of_getElem? (i := 21) (by decide +kernel), List.mem_of_getElem? (i := 414) (by decide +kernel), List.mem_of_getElem? (i := 415) (by decide +kernel)⟩
theorem lw_p3 : lw_okq (⟨"VillageMail", "arrival", "(IIII)I"⟩, 16) := ⟨⟨by decide +kernel, by decide +kernel⟩, List.mem_of_getElem? (i := 21) (by decide +kernel), List.mem_of_getElem? (i := 492) (by decide +kernel), List.mem_of_getElem? (i := 493) (by decide +kernel)⟩
theorem lw_p4 : lw_okq (⟨"VillageMail", "handOverText", "(LVillageMail$Store;I)V"⟩, 16) := ⟨⟨by decide +kernel, by decide +kernel⟩, List.mem_of_getElem? (i := 21) (by decide +kernel), List.mem_of_getElem? (i := 518) (by decide +kernel), List.mem_of_getElem? (i := 519) (by decide +kernel)⟩
theorem lw_p5 : lw_okq (⟨"VillageMail", "expireWhatIsDue", "()V"⟩, 16) := ⟨⟨by decide +kernel, by decide +kernel⟩, List.mem_of_getElem? (i := 21) (by decide +kernel), List.mem_of_getElem? (i := 536) (by decide +kernel), List.mem_of_getElem? (i := 537) (by decide +kernel)⟩
theorem lw_p6 : lw_okq (⟨"VillageMail", "dropCopies", "(IZ)V"⟩, 16) := ⟨⟨by decide +kernel, by decide +kernel⟩, List.mem_of_getElem? (i := 21) (by decide +kernel), List.mem_of_getElem? (i := 540) (by decide +kernel), List.mem_of_getElem? (i := 541) (by decide +kernel)⟩
theorem lw_p7 : lw_okq (⟨"VillageMail", "hold", "(III)I"⟩, 16) := ⟨⟨by decide +kernel, by decide +kernel⟩, List.mem_of_getElem? (i := 21) (by decide +kernel), List.mem_of_getElem? (i := 552) (by decide +kernel), List.mem_of_getElem? (i := 553) (by decide +kernel)⟩
theorem lw_p8 : lw_okq (⟨"VillageMail", "shareNews", "(LVillageMail$Store;LVillageMail$Store;)V"⟩, 16) := ⟨⟨by decide +kernel, by decide +kernel⟩, List.mem_of_getElem? (i := 21) (by decide +kernel), List.mem_of_getElem? (i := 562) (by decide +kernel), List.mem_of_getElem? (i := 563) (by decide +kernel)⟩
theorem lw_p9 : lw_okq (⟨"VillageMail", "settleOffers", "(II)V"⟩, 16) := ⟨⟨by decide +kernel, by decide +kernel⟩, List.mem_of_getElem? (i := 21) (by decide +kernel), List.mem_of_getElem? (i := 573) (by decide +kernel), List.mem_of_getElem? (i := 574) (by decide +kernel)⟩
theorem lw_p10 : lw_okq (⟨"VillageMail", "offerPiecesOf", "(III)V"⟩, 16) := ⟨⟨by decide +kernel, by decide +kernel⟩, List.mem_of_getElem? (i := 21) (by decide +kernel), List.mem_of_getElem? (i := 581) (by decide +kernel), List.mem_of_getElem? (i := 582) (by decide +kernel)⟩
theorem lw_p11 : lw_okq (⟨"VillageMail", "moveOffered", "(LVillageMail$Offers;III)I"⟩, 16) := ⟨⟨by decide +kernel, by decide +kernel⟩, List.mem_of_getElem? (i := 21) (by decide +kernel), List.mem_of_getElem? (i := 590) (by decide +kernel), List.mem_of_getElem? (i := 591) (by decide +kernel)⟩
theorem lw_p12 : lw_okq (⟨"VillageMailModel", "stopAt", "(II)I"⟩, 38) := ⟨⟨by decide +kernel, by decide +kernel⟩, List.mem_of_getElem? (i := 728) (by decide +kernel), List.mem_of_getElem? (i := 866) (by decide +kernel), List.mem_of_getElem? (i := 867) (by decide +kernel)⟩
theorem lw_p13 : lw_okq (⟨"VillageMailModel", "copyStop", "(II)V"⟩, 38) := ⟨⟨by decide +kernel, by decide +kernel⟩, List.mem_of_getElem? (i := 728) (by decide +kernel), List.mem_of_getElem? (i := 874) (by decide +kernel), List.mem_of_getElem? (i := 875) (by decide +kernel)⟩
theorem lw_p14 : lw_okq (⟨"VillageMailModel", "arrival", "(IIII)I"⟩, 38) := ⟨⟨by decide +kernel, by decide +kernel⟩, List.mem_of_getElem? (i := 728) (by decide +kernel), List.mem_of_getElem? (i := 887) (by decide +kernel), List.mem_of_getElem? (i := 888) (by decide +kernel)⟩
theorem lw_p15 : lw_okq (⟨"VillageMailModel", "nextStop", "(II)I"⟩, 38) := ⟨⟨by decide +kernel, by decide +kernel⟩, List.mem_of_getElem? (i := 728) (by decide +kernel), List.mem_of_getElem? (i := 892) (by decide +kernel), List.mem_of_getElem? (i := 893) (by decide +kernel)⟩
def lw_privs_1 : List (MethodName × Nat) := [(⟨"java/lang/Throwable", "fillInStackTrace", "(I)Ljava/lang/Throwable;"⟩, 6), (⟨"VillageMail", "lookAtAllOf", "(I)V"⟩, 16), (⟨"VillageMail", "lookAt", "(I)V"⟩, 16), (⟨"VillageMail", "arrival", "(IIII)I"⟩, 16), (⟨"VillageMail", "handOverText", "(LVillageMail$Store;I)V"⟩, 16), (⟨"VillageMail", "expireWhatIsDue", "()V"⟩, 16), (⟨"VillageMail", "dropCopies", "(IZ)V"⟩, 16), (⟨"VillageMail", "hold", "(III)I"⟩, 16), (⟨"VillageMail", "shareNews", "(LVillageMail$Store;LVillageMail$Store;)V"⟩, 16), (⟨"VillageMail", "settleOffers", "(II)V"⟩, 16), (⟨"VillageMail", "offerPiecesOf", "(III)V"⟩, 16), (⟨"VillageMail", "moveOffered", "(LVillageMail$Offers;III)I"⟩, 16), (⟨"VillageMailModel", "stopAt", "(II)I"⟩, 38), (⟨"VillageMailModel", "copyStop", "(II)V"⟩, 38), (⟨"VillageMailModel", "arrival", "(IIII)I"⟩, 38), (⟨"VillageMailModel", "nextStop", "(II)I"⟩, 38)]
theorem lw_r1 : ∀ q ∈ lw_privs_1, lw_okq q := List.forall_mem_cons.mpr ⟨lw_p0, List.forall_mem_cons.mpr ⟨lw_p1, List.forall_mem_cons.mpr ⟨lw_p2, List.forall_mem_cons.mpr ⟨lw_p3, List.forall_mem_cons.mpr ⟨lw_p4, List.forall_mem_cons.mpr ⟨lw_p5, List.forall_mem_cons.mpr ⟨lw_p6, List.forall_mem_cons.mpr ⟨lw_p7, List.forall_mem_cons.mpr ⟨lw_p8, List.forall_mem_cons.mpr ⟨lw_p9, List.forall_mem_cons.mpr ⟨lw_p10, List.forall_mem_cons.mpr ⟨lw_p11, List.forall_mem_cons.mpr ⟨lw_p12, List.forall_mem_cons.mpr ⟨lw_p13, List.forall_mem_cons.mpr ⟨lw_p14, List.forall_mem_cons.mpr ⟨lw_p15, fun _ h => absurd h List.not_mem_nil⟩⟩⟩⟩⟩⟩⟩⟩⟩⟩⟩⟩⟩⟩⟩⟩
theorem lw_p16 : lw_okq (⟨"VillageMailModel", "passes", "(III)Z"⟩, 38) := ⟨⟨by decide +kernel, by decide +kernel⟩, List.mem_of_getElem? (i := 728) (by decide +kernel), List.mem_of_getElem? (i := 896) (by decide +kernel), List.mem_of_getElem? (i := 897) (by decide +kernel)⟩
theorem lw_p17 : lw_okq (⟨"VillageMailModel", "lookAll", "(I)V"⟩, 38) := ⟨⟨by decide +kernel, by decide +kernel⟩, List.mem_of_getElem? (i := 728) (by decide +kernel), List.mem_of_getElem? (i := 904) (by decide +kernel), List.mem_of_getElem? (i := 905) (by decide +kernel)⟩
theorem lw_p18 : lw_okq (⟨"VillageMailModel", "lookAt", "(I)V"⟩, 38) := ⟨⟨by decide +kernel, by decide +kernel⟩, List.mem_of_getElem? (i := 728) (by decide +kernel), List.mem_of_getElem? (i := 908) (by decide +kernel), List.mem_of_getElem? (i := 909) (by decide +kernel)⟩
theorem lw_p19 : lw_okq (⟨"VillageMailModel", "complete", "(I)Z"⟩, 38) := ⟨⟨by decide +kernel, by decide +kernel⟩, List.mem_of_getElem? (i := 728) (by decide +kernel), List.mem_of_getElem? (i := 912) (by decide +kernel), List.mem_of_getElem? (i := 913) (by decide +kernel)⟩
theorem lw_p20 : lw_okq (⟨"VillageMailModel", "pieces", "(I)I"⟩, 38) := ⟨⟨by decide +kernel, by decide +kernel⟩, List.mem_of_getElem? (i := 728) (by decide +kernel), List.mem_of_getElem? (i := 916) (by decide +kernel), List.mem_of_getElem? (i := 917) (by decide +kernel)⟩
theorem lw_p21 : lw_okq (⟨"VillageMailModel", "byteOf", "(III)I"⟩, 38) := ⟨⟨by decide +kernel, by decide +kernel⟩, List.mem_of_getElem? (i := 728) (by decide +kernel), List.mem_of_getElem? (i := 926) (by decide +kernel), List.mem_of_getElem? (i := 927) (by decide +kernel)⟩
theorem lw_p22 : lw_okq (⟨"VillageMailModel", "learn", "(III)V"⟩, 38) := ⟨⟨by decide +kernel, by decide +kernel⟩, List.mem_of_getElem? (i := 728) (by decide +kernel), List.mem_of_getElem? (i := 930) (by decide +kernel), List.mem_of_getElem? (i := 931) (by decide +kernel)⟩
theorem lw_p23 : lw_okq (⟨"VillageMailModel", "isFor", "(II)Z"⟩, 38) := ⟨⟨by decide +kernel, by decide +kernel⟩, List.mem_of_getElem? (i := 728) (by decide +kernel), List.mem_of_getElem? (i := 934) (by decide +kernel), List.mem_of_getElem? (i := 935) (by decide +kernel)⟩
theorem lw_p24 : lw_okq (⟨"VillageMailModel", "bytesIn", "(I)I"⟩, 38) := ⟨⟨by decide +kernel, by decide +kernel⟩, List.mem_of_getElem? (i := 728) (by decide +kernel), List.mem_of_getElem? (i := 938) (by decide +kernel), List.mem_of_getElem? (i := 939) (by decide +kernel)⟩
theorem lw_p25 : lw_okq (⟨"VillageMailModel", "room", "(I)I"⟩, 38) := ⟨⟨by decide +kernel, by decide +kernel⟩, List.mem_of_getElem? (i := 728) (by decide +kernel), List.mem_of_getElem? (i := 954) (by decide +kernel), List.mem_of_getElem? (i := 955) (by decide +kernel)⟩
theorem lw_p26 : lw_okq (⟨"VillageMailModel", "expire", "(I)V"⟩, 38) := ⟨⟨by decide +kernel, by decide +kernel⟩, List.mem_of_getElem? (i := 728) (by decide +kernel), List.mem_of_getElem? (i := 962) (by decide +kernel), List.mem_of_getElem? (i := 963) (by decide +kernel)⟩
theorem lw_p27 : lw_okq (⟨"VillageMailModel", "meeting", "(III)I"⟩, 38) := ⟨⟨by decide +kernel, by decide +kernel⟩, List.mem_of_getElem? (i := 728) (by decide +kernel), List.mem_of_getElem? (i := 970) (by decide +kernel), List.mem_of_getElem? (i := 971) (by decide +kernel)⟩
theorem lw_p28 : lw_okq (⟨"VillageMailModel", "exchangeNews", "(II)V"⟩, 38) := ⟨⟨by decide +kernel, by decide +kernel⟩, List.mem_of_getElem? (i := 728) (by decide +kernel), List.mem_of_getElem? (i := 974) (by decide +kernel), List.mem_of_getElem? (i := 975) (by decide +kernel)⟩
theorem lw_p29 : lw_okq (⟨"VillageMailModel", "hear", "(II)V"⟩, 38) := ⟨⟨by decide +kernel, by decide +kernel⟩, List.mem_of_getElem? (i := 728) (by decide +kernel), List.mem_of_getElem? (i := 978) (by decide +kernel), List.mem_of_getElem? (i := 979) (by decide +kernel)⟩
theorem lw_p30 : lw_okq (⟨"VillageMailModel", "settle", "(II)V"⟩, 38) := ⟨⟨by decide +kernel, by decide +kernel⟩, List.mem_of_getElem? (i := 728) (by decide +kernel), List.mem_of_getElem? (i := 982) (by decide +kernel), List.mem_of_getElem? (i := 983) (by decide +kernel)⟩
theorem lw_p31 : lw_okq (⟨"VillageMailModel", "give", "(IIII)I"⟩, 38) := ⟨⟨by decide +kernel, by decide +kernel⟩, List.mem_of_getElem? (i := 728) (by decide +kernel), List.mem_of_getElem? (i := 989) (by decide +kernel), List.mem_of_getElem? (i := 990) (by decide +kernel)⟩
def lw_privs_2 : List (MethodName × Nat) := [(⟨"VillageMailModel", "passes", "(III)Z"⟩, 38), (⟨"VillageMailModel", "lookAll", "(I)V"⟩, 38), (⟨"VillageMailModel", "lookAt", "(I)V"⟩, 38), (⟨"VillageMailModel", "complete", "(I)Z"⟩, 38), (⟨"VillageMailModel", "pieces", "(I)I"⟩, 38), (⟨"VillageMailModel", "byteOf", "(III)I"⟩, 38), (⟨"VillageMailModel", "learn", "(III)V"⟩, 38), (⟨"VillageMailModel", "isFor", "(II)Z"⟩, 38), (⟨"VillageMailModel", "bytesIn", "(I)I"⟩, 38), (⟨"VillageMailModel", "room", "(I)I"⟩, 38), (⟨"VillageMailModel", "expire", "(I)V"⟩, 38), (⟨"VillageMailModel", "meeting", "(III)I"⟩, 38), (⟨"VillageMailModel", "exchangeNews", "(II)V"⟩, 38), (⟨"VillageMailModel", "hear", "(II)V"⟩, 38), (⟨"VillageMailModel", "settle", "(II)V"⟩, 38), (⟨"VillageMailModel", "give", "(IIII)I"⟩, 38)]
theorem lw_r2 : ∀ q ∈ lw_privs_2, lw_okq q := List.forall_mem_cons.mpr ⟨lw_p16, List.forall_mem_cons.mpr ⟨lw_p17, List.forall_mem_cons.mpr ⟨lw_p18, List.forall_mem_cons.mpr ⟨lw_p19, List.forall_mem_cons.mpr ⟨lw_p20, List.forall_mem_cons.mpr ⟨lw_p21, List.forall_mem_cons.mpr ⟨lw_p22, List.forall_mem_cons.mpr ⟨lw_p23, List.forall_mem_cons.mpr ⟨lw_p24, List.forall_mem_cons.mpr ⟨lw_p25, List.forall_mem_cons.mpr ⟨lw_p26, List.forall_mem_cons.mpr ⟨lw_p27, List.forall_mem_cons.mpr ⟨lw_p28, List.forall_mem_cons.mpr ⟨lw_p29, List.forall_mem_cons.mpr ⟨lw_p30, List.forall_mem_cons.mpr ⟨lw_p31, fun _ h => absurd h List.not_mem_nil⟩⟩⟩⟩⟩⟩⟩⟩⟩⟩⟩⟩⟩⟩⟩⟩
theorem lw_p32 : lw_okq (⟨"VillageMailModel", "move", "(IIII)Z"⟩, 38) := ⟨⟨by decide +kernel, by decide +kernel⟩, List.mem_of_getElem? (i := 728) (by decide +kernel), List.mem_of_getElem? (i := 993) (by decide +kernel), List.mem_of_getElem? (i := 994) (by decide +kernel)⟩
theorem lw_p33 : lw_okq (⟨"VillageMailModel", "isLetter", "(I)Z"⟩, 38) := ⟨⟨by decide +kernel, by decide +kernel⟩, List.mem_of_getElem? (i := 728) (by decide +kernel), List.mem_of_getElem? (i := 1009) (by decide +kernel), List.mem_of_getElem? (i := 1010) (by decide +kernel)⟩
def lw_privs_3 : List (MethodName × Nat) := [(⟨"VillageMailModel", "move", "(IIII)Z"⟩, 38), (⟨"VillageMailModel", "isLetter", "(I)Z"⟩, 38)]
theorem lw_r3 : ∀ q ∈ lw_privs_3, lw_okq q := List.forall_mem_cons.mpr ⟨lw_p32, List.forall_mem_cons.mpr ⟨lw_p33, fun _ h => absurd h List.not_mem_nil⟩⟩
def lw_privs : List (MethodName × Nat) := lw_privs_1 ++ (lw_privs_2 ++ (lw_privs_3))
def lw_tbl : List Cond := k2_sels lw_privs ++ tables_1
theorem lw_privs_ok : ∀ q ∈ lw_privs, lw_okq q := by
  show ∀ q ∈ lw_privs_1 ++ (lw_privs_2 ++ (lw_privs_3)), lw_okq q
  exact List.forall_mem_append.mpr ⟨lw_r1, List.forall_mem_append.mpr ⟨lw_r2, lw_r3⟩⟩
-- the words that every method takes: those of the tables that no run moves
def wAll : List Cond := lw_tbl.filter goodWord
theorem wa_at {w : Cond} {i : Nat} (h : tables_1[i]? = some w) (g : goodWord w = true) : w ∈ wAll := List.mem_filter.mpr ⟨List.mem_append_right _ (List.mem_of_getElem? h), g⟩
theorem wa_all {ws : List Cond} (ps : List Nat) (hp : ws = ps.filterMap (fun i => tables_1[i]?)) (hg : ws.all goodWord = true) : ∀ w ∈ ws, w ∈ wAll := by
  intro w hw
  have h1 := List.all_eq_true.mp hg w hw
  rw [hp] at hw
  obtain ⟨i, -, hi⟩ := List.mem_filterMap.mp hw
  exact wa_at hi h1
theorem wa_sel {y : MethodName} {n : Nat} (h : (y, n) ∈ lw_privs) : Cond.selects y.cls y y ∈ wAll := by
  refine List.mem_filter.mpr ⟨List.mem_append_left _ ?_, rfl⟩
  exact List.mem_map.mpr ⟨(y, n), h, rfl⟩
theorem wa_good {w : Cond} (h : w ∈ wAll) : goodWord w = true := (List.mem_filter.mp h).2
theorem gd_of {ws : List Cond} (h : ∀ w ∈ ws, w ∈ wAll) : GoodIn wAll ws := fun w hw => ⟨h w hw, good_of_word (wa_good (h w hw))⟩
theorem gd_v {own : String} {idx : Nat} {y : MethodName} {b : ByteArray} {mL : Nat} {rt : Option FieldType} (h1 : Cond.methodLink own idx y ∈ wAll) (h2 : Cond.instanceMethod y ∈ wAll) (h3 : Cond.selects y.cls y y ∈ wAll) (h4 : Cond.initialized y.cls ∈ wAll) (h5 : Cond.code y b mL rt ∈ wAll) : GoodIn wAll (wsV own idx y.cls y (.code y b mL rt :: wAll)) := by
  refine gd_of fun w hw => ?_
  unfold wsV at hw
  simp only [List.cons_append, List.nil_append, List.mem_cons] at hw
  rcases hw with rfl | rfl | rfl | rfl | rfl | hw
  · exact h1
  · exact h2
  · exact h3
  · exact h4
  · exact h5
  · exact hw
theorem gd_s {own : String} {idx : Nat} {y : MethodName} {b : ByteArray} {mL : Nat} {rt : Option FieldType} (h1 : Cond.methodLink own idx y ∈ wAll) (h2 : Cond.static y ∈ wAll) (h4 : Cond.initialized y.cls ∈ wAll) (h5 : Cond.code y b mL rt ∈ wAll) : GoodIn wAll (va_wsS own idx y (.code y b mL rt :: wAll)) := by
  refine gd_of fun w hw => ?_
  unfold va_wsS at hw
  simp only [List.cons_append, List.nil_append, List.mem_cons] at hw
  rcases hw with rfl | rfl | rfl | rfl | hw
  · exact h1
  · exact h2
  · exact h4
  · exact h5
  · exact hw
def T_B : u_T := fun k => match k with
  | 0 => ("VillageMail$Box", "letters", "[I", true)
  | 1 => ("VillageMail$Box", "count", "I", false)
  | 2 => ("VillageMail$Box", "bytes", "I", false)
  | _ => ("VillageMail$Box", "quota", "I", false)
def ty_B : Nat → FieldType := fun k => match k with
  | 0 => .array .int
  | 1 => .int
  | 2 => .int
  | _ => .int
set_option maxRecDepth 100000 in
theorem nm_B : ∀ a, a < 4 → ∀ b, b < 4 → a ≠ b → (T_B a).2.1 ≠ (T_B b).2.1 := by decide +kernel
theorem tk_B : ∀ k, k < 4 → parseFieldDescriptor (T_B k).2.2.1 = some (ty_B k) := by decide +kernel
set_option maxRecDepth 100000 in
theorem in_B : ∀ w ∈ u_ws "VillageMail$Box" T_B 4, w ∈ wAll := wa_all [119, 121, 123, 125] (by decide +kernel) (by decide +kernel)
def T_C : u_T := fun k => match k with
  | 0 => ("VillageMail$Boxes", "each", "[LVillageMail$Box;", true)
  | _ => ("VillageMail$Boxes", "groups", "[I", true)
def ty_C : Nat → FieldType := fun k => match k with
  | 0 => .array (.object "VillageMail$Box")
  | _ => .array .int
set_option maxRecDepth 100000 in
theorem nm_C : ∀ a, a < 2 → ∀ b, b < 2 → a ≠ b → (T_C a).2.1 ≠ (T_C b).2.1 := by decide +kernel
theorem tk_C : ∀ k, k < 2 → parseFieldDescriptor (T_C k).2.2.1 = some (ty_C k) := by decide +kernel
set_option maxRecDepth 100000 in
theorem in_C : ∀ w ∈ u_ws "VillageMail$Boxes" T_C 2, w ∈ wAll := wa_all [131, 133] (by decide +kernel) (by decide +kernel)
def T_L : u_T := fun k => match k with
  | 0 => ("VillageMail$Letter", "from", "I", false)
  | 1 => ("VillageMail$Letter", "goal", "I", false)
  | 2 => ("VillageMail$Letter", "box", "I", false)
  | 3 => ("VillageMail$Letter", "sort", "I", false)
  | 4 => ("VillageMail$Letter", "posted", "I", false)
  | 5 => ("VillageMail$Letter", "promised", "I", false)
  | 6 => ("VillageMail$Letter", "length", "I", false)
  | 7 => ("VillageMail$Letter", "sum", "I", false)
  | 8 => ("VillageMail$Letter", "isOver", "Z", false)
  | 9 => ("VillageMail$Letter", "expired", "Z", false)
  | _ => ("VillageMail$Letter", "received", "[J", true)
def ty_L : Nat → FieldType := fun k => match k with
  | 0 => .int
  | 1 => .int
  | 2 => .int
  | 3 => .int
  | 4 => .int
  | 5 => .int
  | 6 => .int
  | 7 => .int
  | 8 => .boolean
  | 9 => .boolean
  | _ => .array .long
set_option maxRecDepth 100000 in
theorem nm_L : ∀ a, a < 11 → ∀ b, b < 11 → a ≠ b → (T_L a).2.1 ≠ (T_L b).2.1 := by decide +kernel
theorem tk_L : ∀ k, k < 11 → parseFieldDescriptor (T_L k).2.2.1 = some (ty_L k) := by decide +kernel
set_option maxRecDepth 100000 in
theorem in_L : ∀ w ∈ u_ws "VillageMail$Letter" T_L 11, w ∈ wAll := wa_all [155, 157, 159, 161, 163, 165, 167, 169, 171, 173, 175] (by decide +kernel) (by decide +kernel)
def T_O : u_T := fun k => match k with
  | 0 => ("VillageMail$Offers", "pieces", "[I", true)
  | _ => ("VillageMail$Offers", "count", "I", false)
def ty_O : Nat → FieldType := fun k => match k with
  | 0 => .array .int
  | _ => .int
set_option maxRecDepth 100000 in
theorem nm_O : ∀ a, a < 2 → ∀ b, b < 2 → a ≠ b → (T_O a).2.1 ≠ (T_O b).2.1 := by decide +kernel
theorem tk_O : ∀ k, k < 2 → parseFieldDescriptor (T_O k).2.2.1 = some (ty_O k) := by decide +kernel
set_option maxRecDepth 100000 in
theorem in_O : ∀ w ∈ u_ws "VillageMail$Offers" T_O 2, w ∈ wAll := wa_all [206, 208] (by decide +kernel) (by decide +kernel)
def T_R : u_T := fun k => match k with
  | 0 => ("VillageMail$Ride", "came", "[I", true)
  | 1 => ("VillageMail$Ride", "canLeave", "[I", true)
  | _ => ("VillageMail$Ride", "aboard", "[Z", true)
def ty_R : Nat → FieldType := fun k => match k with
  | 0 => .array .int
  | 1 => .array .int
  | _ => .array .boolean
set_option maxRecDepth 100000 in
theorem nm_R : ∀ a, a < 3 → ∀ b, b < 3 → a ≠ b → (T_R a).2.1 ≠ (T_R b).2.1 := by decide +kernel
theorem tk_R : ∀ k, k < 3 → parseFieldDescriptor (T_R k).2.2.1 = some (ty_R k) := by decide +kernel
set_option maxRecDepth 100000 in
theorem in_R : ∀ w ∈ u_ws "VillageMail$Ride" T_R 3, w ∈ wAll := wa_all [188, 190, 192] (by decide +kernel) (by decide +kernel)
def T_S : u_T := fun k => match k with
  | 0 => ("VillageMail$Store", "capacity", "I", true)
  | 1 => ("VillageMail$Store", "hops", "[I", true)
  | 2 => ("VillageMail$Store", "news", "[I", true)
  | 3 => ("VillageMail$Store", "bytes", "[J", true)
  | 4 => ("VillageMail$Store", "known", "[I", true)
  | 5 => ("VillageMail$Store", "copies", "I", false)
  | 6 => ("VillageMail$Store", "timetable", "I", false)
  | 7 => ("VillageMail$Store", "expiredLetters", "I", false)
  | _ => ("VillageMail$Store", "refusals", "I", false)
def ty_S : Nat → FieldType := fun k => match k with
  | 0 => .int
  | 1 => .array .int
  | 2 => .array .int
  | 3 => .array .long
  | 4 => .array .int
  | 5 => .int
  | 6 => .int
  | 7 => .int
  | _ => .int
set_option maxRecDepth 100000 in
theorem nm_S : ∀ a, a < 9 → ∀ b, b < 9 → a ≠ b → (T_S a).2.1 ≠ (T_S b).2.1 := by decide +kernel
theorem tk_S : ∀ k, k < 9 → parseFieldDescriptor (T_S k).2.2.1 = some (ty_S k) := by decide +kernel
set_option maxRecDepth 100000 in
theorem in_S : ∀ w ∈ u_ws "VillageMail$Store" T_S 9, w ∈ wAll := wa_all [77, 79, 81, 83, 85, 87, 89, 91, 93] (by decide +kernel) (by decide +kernel)
def T_T : u_T := fun k => match k with
  | 0 => ("VillageMail$Timetable", "buses", "[I", true)
  | 1 => ("VillageMail$Timetable", "kiosks", "[I", true)
  | 2 => ("VillageMail$Timetable", "minutes", "[I", true)
  | _ => ("VillageMail$Timetable", "count", "I", false)
def ty_T : Nat → FieldType := fun k => match k with
  | 0 => .array .int
  | 1 => .array .int
  | 2 => .array .int
  | _ => .int
set_option maxRecDepth 100000 in
theorem nm_T : ∀ a, a < 4 → ∀ b, b < 4 → a ≠ b → (T_T a).2.1 ≠ (T_T b).2.1 := by decide +kernel
theorem tk_T : ∀ k, k < 4 → parseFieldDescriptor (T_T k).2.2.1 = some (ty_T k) := by decide +kernel
set_option maxRecDepth 100000 in
theorem in_T : ∀ w ∈ u_ws "VillageMail$Timetable" T_T 4, w ∈ wAll := wa_all [43, 45, 47, 49] (by decide +kernel) (by decide +kernel)
def T_X : u_T := fun k => match k with
  | 0 => ("VillageMail", "clock", "I", false)
  | 1 => ("VillageMail", "draft", "LVillageMail$Timetable;", true)
  | 2 => ("VillageMail", "published", "[LVillageMail$Timetable;", true)
  | 3 => ("VillageMail", "publications", "I", false)
  | 4 => ("VillageMail", "stores", "[LVillageMail$Store;", true)
  | 5 => ("VillageMail", "boxes", "[LVillageMail$Boxes;", true)
  | 6 => ("VillageMail", "letters", "[LVillageMail$Letter;", true)
  | 7 => ("VillageMail", "letterCount", "I", false)
  | 8 => ("VillageMail", "text", "[J", true)
  | 9 => ("VillageMail", "textLength", "I", false)
  | 10 => ("VillageMail", "fromKiosk", "LVillageMail$Ride;", true)
  | 11 => ("VillageMail", "fromBus", "LVillageMail$Ride;", true)
  | 12 => ("VillageMail", "busOffers", "LVillageMail$Offers;", true)
  | 13 => ("VillageMail", "kioskOffers", "LVillageMail$Offers;", true)
  | 14 => ("VillageMail", "lastGiver", "I", false)
  | _ => ("VillageMail", "lastPiece", "I", false)
def ty_X : Nat → FieldType := fun k => match k with
  | 0 => .int
  | 1 => .object "VillageMail$Timetable"
  | 2 => .array (.object "VillageMail$Timetable")
  | 3 => .int
  | 4 => .array (.object "VillageMail$Store")
  | 5 => .array (.object "VillageMail$Boxes")
  | 6 => .array (.object "VillageMail$Letter")
  | 7 => .int
  | 8 => .array .long
  | 9 => .int
  | 10 => .object "VillageMail$Ride"
  | 11 => .object "VillageMail$Ride"
  | 12 => .object "VillageMail$Offers"
  | 13 => .object "VillageMail$Offers"
  | 14 => .int
  | _ => .int
set_option maxRecDepth 100000 in
theorem nm_X : ∀ a, a < 16 → ∀ b, b < 16 → a ≠ b → (T_X a).2.1 ≠ (T_X b).2.1 := by decide +kernel
theorem tk_X : ∀ k, k < 16 → parseFieldDescriptor (T_X k).2.2.1 = some (ty_X k) := by decide +kernel
set_option maxRecDepth 100000 in
theorem in_X : ∀ w ∈ u_ws "VillageMail" T_X 16, w ∈ wAll := wa_all [227, 229, 231, 233, 235, 237, 239, 241, 243, 245, 247, 249, 251, 253, 255, 257] (by decide +kernel) (by decide +kernel)
def T_M : u_T := fun k => match k with
  | 0 => ("VillageMailModel", "stopBus", "[I", true)
  | 1 => ("VillageMailModel", "stopKiosk", "[I", true)
  | 2 => ("VillageMailModel", "stopMinute", "[I", true)
  | 3 => ("VillageMailModel", "stops", "[I", true)
  | 4 => ("VillageMailModel", "published", "I", false)
  | 5 => ("VillageMailModel", "now", "I", false)
  | 6 => ("VillageMailModel", "held", "[I", true)
  | 7 => ("VillageMailModel", "letters", "I", false)
  | 8 => ("VillageMailModel", "size", "[I", true)
  | 9 => ("VillageMailModel", "sort", "[I", true)
  | 10 => ("VillageMailModel", "origin", "[I", true)
  | 11 => ("VillageMailModel", "goal", "[I", true)
  | 12 => ("VillageMailModel", "address", "[I", true)
  | 13 => ("VillageMailModel", "posted", "[I", true)
  | 14 => ("VillageMailModel", "sum", "[I", true)
  | 15 => ("VillageMailModel", "promised", "[I", true)
  | 16 => ("VillageMailModel", "expired", "[Z", true)
  | 17 => ("VillageMailModel", "delivered", "[I", true)
  | 18 => ("VillageMailModel", "copy", "[Z", true)
  | 19 => ("VillageMailModel", "hops", "[I", true)
  | 20 => ("VillageMailModel", "news", "[I", true)
  | 21 => ("VillageMailModel", "bytes", "[I", true)
  | 22 => ("VillageMailModel", "known", "[I", true)
  | 23 => ("VillageMailModel", "expiredAt", "[I", true)
  | 24 => ("VillageMailModel", "refusals", "[I", true)
  | 25 => ("VillageMailModel", "quota", "[I", true)
  | 26 => ("VillageMailModel", "lying", "[I", true)
  | 27 => ("VillageMailModel", "lies", "[I", true)
  | 28 => ("VillageMailModel", "member", "[Z", true)
  | 29 => ("VillageMailModel", "text", "[I", true)
  | 30 => ("VillageMailModel", "textLong", "I", false)
  | 31 => ("VillageMailModel", "thrown", "I", false)
  | 32 => ("VillageMailModel", "riding", "[Z", true)
  | 33 => ("VillageMailModel", "from", "[I", true)
  | 34 => ("VillageMailModel", "offered", "[Z", true)
  | 35 => ("VillageMailModel", "gift", "I", false)
  | 36 => ("VillageMailModel", "giftHops", "I", false)
  | _ => ("VillageMailModel", "giftBytes", "[I", true)
def ty_M : Nat → FieldType := fun k => match k with
  | 0 => .array .int
  | 1 => .array .int
  | 2 => .array .int
  | 3 => .array .int
  | 4 => .int
  | 5 => .int
  | 6 => .array .int
  | 7 => .int
  | 8 => .array .int
  | 9 => .array .int
  | 10 => .array .int
  | 11 => .array .int
  | 12 => .array .int
  | 13 => .array .int
  | 14 => .array .int
  | 15 => .array .int
  | 16 => .array .boolean
  | 17 => .array .int
  | 18 => .array .boolean
  | 19 => .array .int
  | 20 => .array .int
  | 21 => .array .int
  | 22 => .array .int
  | 23 => .array .int
  | 24 => .array .int
  | 25 => .array .int
  | 26 => .array .int
  | 27 => .array .int
  | 28 => .array .boolean
  | 29 => .array .int
  | 30 => .int
  | 31 => .int
  | 32 => .array .boolean
  | 33 => .array .int
  | 34 => .array .boolean
  | 35 => .int
  | 36 => .int
  | _ => .array .int
set_option maxRecDepth 100000 in
theorem nm_M : ∀ a, a < 38 → ∀ b, b < 38 → a ≠ b → (T_M a).2.1 ≠ (T_M b).2.1 := by decide +kernel
theorem tk_M : ∀ k, k < 38 → parseFieldDescriptor (T_M k).2.2.1 = some (ty_M k) := by decide +kernel
set_option maxRecDepth 100000 in
theorem in_M : ∀ w ∈ u_ws "VillageMailModel" T_M 38, w ∈ wAll := wa_all [771, 773, 775, 777, 779, 781, 783, 785, 787, 789, 791, 793, 795, 797, 799, 801, 803, 805, 807, 809, 811, 813, 815, 817, 819, 821, 823, 825, 827, 829, 831, 833, 835, 837, 839, 841, 843, 845] (by decide +kernel) (by decide +kernel)
abbrev vwCl : List vw_C := [("VillageMail$Box", T_B, 4), ("VillageMail$Boxes", T_C, 2), ("VillageMail$Letter", T_L, 11), ("VillageMail$Offers", T_O, 2), ("VillageMail$Ride", T_R, 3), ("VillageMail$Store", T_S, 9), ("VillageMail$Timetable", T_T, 4), ("VillageMail", T_X, 16), ("VillageMailModel", T_M, 38)]
end
section
-- the picture of the cells: families of cells, each with its rows of numbers
abbrev Mem : Type := (Nat → Nat → Nat → Int32) × (Nat → Nat → Nat → Int64)
abbrev Oc : Type := Nat ⊕ Option Value
abbrev RR : Type := Option (Oc × Mem)
abbrev KK : Type := Nat × va_G × (Nat → ClassId) × (Nat → Nat → Nat)
abbrev Cx : Type := Program × Launch × Env × Room × State × MethodId × Array Value × List Frame × Method × Code × (State → Prop) × Nat × Nat
def FU : Nat := 100000
def aa (K : KK) (F i : Nat) : Nat := K.2.2.2 F i
-- what a method does, in steps
def mm_wI (σ : Mem) (F i k : Nat) (v : Int32) : Mem := (fun F' i' k' => if F' = F ∧ i' = i ∧ k' = k then v else σ.1 F' i' k', σ.2)
def mm_wJ (σ : Mem) (F i k : Nat) (v : Int64) : Mem := (σ.1, fun F' i' k' => if F' = F ∧ i' = i ∧ k' = k then v else σ.2 F' i' k')
def mm_ld (σ : Mem) (F i N : Nat) (x : Int32) (k : Int32 → RR) : RR := if x < 0 ∨ N ≤ x.toNatClampNeg then none else k (σ.1 F i x.toNatClampNeg)
def mm_ldj (σ : Mem) (F i N : Nat) (x : Int32) (k : Int64 → RR) : RR := if x < 0 ∨ N ≤ x.toNatClampNeg then none else k (σ.2 F i x.toNatClampNeg)
def mm_al (N : Nat) (x : Int32) (k : Nat → RR) : RR := if x < 0 ∨ N ≤ x.toNatClampNeg then none else k x.toNatClampNeg
def mm_st (σ : Mem) (F i N : Nat) (x v : Int32) (k : Mem → RR) : RR := if x < 0 ∨ N ≤ x.toNatClampNeg then none else k (mm_wI σ F i x.toNatClampNeg v)
def mm_sz (σ : Mem) (F i N : Nat) (x v : Int32) (k : Mem → RR) : RR := if x < 0 ∨ N ≤ x.toNatClampNeg then none else k (mm_wI σ F i x.toNatClampNeg (vp_nar .boolean v))
def mm_stj (σ : Mem) (F i N : Nat) (x : Int32) (v : Int64) (k : Mem → RR) : RR := if x < 0 ∨ N ≤ x.toNatClampNeg then none else k (mm_wJ σ F i x.toNatClampNeg v)
def mm_gf (σ : Mem) (F i q : Nat) (k : Int32 → RR) : RR := k (σ.1 F i q)
def mm_pf (σ : Mem) (F i q : Nat) (v : Int32) (k : Mem → RR) : RR := k (mm_wI σ F i q v)
def mm_pz (σ : Mem) (F i q : Nat) (v : Int32) (k : Mem → RR) : RR := if v = 0 ∨ v = 1 then k (mm_wI σ F i q v) else none
def mm_ri (v : Int32) (σ : Mem) : RR := some (.inr (some (.int v)), σ)
def mm_rz (v : Int32) (σ : Mem) : RR := if v = 0 ∨ v = 1 then some (.inr (some (.int v)), σ) else none
def mm_rj (v : Int64) (σ : Mem) : RR := some (.inr (some (.long v)), σ)
def mm_rv (σ : Mem) : RR := some (.inr none, σ)
def mm_th (e : Nat) (σ : Mem) : RR := some (.inl e, σ)
def mm_cI (a : RR) (k : Int32 → Mem → RR) : RR := match a with
  | some (.inr (some (.int v)), σ) => k v σ
  | _ => none
def mm_cJ (a : RR) (k : Int64 → Mem → RR) : RR := match a with
  | some (.inr (some (.long v)), σ) => k v σ
  | _ => none
def mm_cV (a : RR) (k : Mem → RR) : RR := match a with
  | some (.inr none, σ) => k σ
  | _ => none
def mm_tV (a : RR) (k : Mem → RR) : RR := match a with
  | some (.inr none, σ) => k σ
  | some (.inl e, σ) => some (.inl e, σ)
  | _ => none
def mm_jn {α : Type} (r : α → Mem → RR) (b : (α → Mem → RR) → RR) : RR := b r
abbrev mm_lp {α : Type} (b : α → RR) (k : α) : RR := b k
def mm_nz (y : Int32) (a : RR) : RR := if y = 0 then none else a
def mm_ishl (x y : Int32) : Int32 := x <<< (y &&& 31)
def mm_ishr (x y : Int32) : Int32 := x >>> (y &&& 31)
def mm_iushr (x y : Int32) : Int32 := (x.toUInt32 >>> (y.toUInt32 &&& Int32.toUInt32 31)).toInt32
def mm_lshl (x : Int64) (y : Int32) : Int64 := x <<< (y.toInt64 &&& 63)
def mm_lushr (x : Int64) (y : Int32) : Int64 := (x.toUInt64 >>> (y.toInt64.toUInt64 &&& Int64.toUInt64 63)).toInt64
def mm_irem (x y : Int32) : Int32 := x - x / y * y
def mm_max (x y : Int32) : Int32 := if x < y then y else x
def mm_min (x y : Int32) : Int32 := if y < x then y else x
def mm_cp (σ : Mem) (F i N : Nat) (sp : Int32) (F2 i2 N2 : Nat) (dp n : Int32) (k : Mem → RR) : RR :=
  if sp < 0 ∨ dp < 0 ∨ n < 0 ∨ ¬ sp.toNatClampNeg + n.toNatClampNeg ≤ N ∨ ¬ dp.toNatClampNeg + n.toNatClampNeg ≤ N2 then none
  else k (σ.1, fun F' i' k' => if F' = F2 ∧ i' = i2 then va_cpy (σ.2 F i) (σ.2 F2 i2) sp.toNatClampNeg dp.toNatClampNeg n.toNatClampNeg k' else σ.2 F' i' k')
end
section
def cnt (F : Nat) : Nat := match F with
  | 0 => 1
  | 1 => 8
  | 2 => 8
  | 3 => 8
  | 4 => 8
  | 5 => 1
  | 6 => 1
  | 7 => 12
  | 8 => 12
  | 9 => 12
  | 10 => 12
  | 11 => 12
  | 12 => 1
  | 13 => 8
  | 14 => 8
  | 15 => 8
  | 16 => 24
  | 17 => 24
  | 18 => 1
  | 19 => 16
  | 20 => 16
  | 21 => 1
  | 22 => 2
  | 23 => 2
  | 24 => 2
  | 25 => 2
  | 26 => 2
  | 27 => 2
  | 30 => 1
  | 31 => 1
  | 32 => 1
  | 33 => 1
  | 34 => 1
  | 35 => 1
  | 36 => 1
  | 37 => 1
  | 38 => 1
  | 39 => 1
  | 40 => 1
  | 41 => 1
  | 42 => 1
  | 43 => 1
  | 44 => 1
  | 45 => 1
  | 46 => 1
  | 47 => 1
  | 48 => 1
  | 49 => 1
  | 50 => 1
  | 51 => 1
  | 52 => 1
  | 53 => 1
  | 54 => 1
  | 55 => 1
  | 56 => 1
  | 57 => 1
  | 58 => 1
  | 59 => 1
  | 60 => 1
  | 61 => 1
  | 70 => 1
  | _ => 0
def tb_all : List (Nat × Nat) := (List.range 72).flatMap fun F => (List.range (cnt F)).map fun i => (F, i)
def tb_base (F : Nat) : Nat := match F with
  | 0 => 0
  | 1 => 1
  | 2 => 9
  | 3 => 17
  | 4 => 25
  | 5 => 33
  | 6 => 34
  | 7 => 35
  | 8 => 47
  | 9 => 59
  | 10 => 71
  | 11 => 83
  | 12 => 95
  | 13 => 96
  | 14 => 104
  | 15 => 112
  | 16 => 120
  | 17 => 144
  | 18 => 168
  | 19 => 169
  | 20 => 185
  | 21 => 201
  | 22 => 202
  | 23 => 204
  | 24 => 206
  | 25 => 208
  | 26 => 210
  | 27 => 212
  | 30 => 214
  | 31 => 215
  | 32 => 216
  | 33 => 217
  | 34 => 218
  | 35 => 219
  | 36 => 220
  | 37 => 221
  | 38 => 222
  | 39 => 223
  | 40 => 224
  | 41 => 225
  | 42 => 226
  | 43 => 227
  | 44 => 228
  | 45 => 229
  | 46 => 230
  | 47 => 231
  | 48 => 232
  | 49 => 233
  | 50 => 234
  | 51 => 235
  | 52 => 236
  | 53 => 237
  | 54 => 238
  | 55 => 239
  | 56 => 240
  | 57 => 241
  | 58 => 242
  | 59 => 243
  | 60 => 244
  | 61 => 245
  | 70 => 246
  | _ => 0
def tb_pos (F i : Nat) : Nat := tb_base F + i
set_option maxRecDepth 100000 in
theorem tb_at : ∀ F, F < 72 → ∀ i, i < cnt F → tb_all[tb_pos F i]? = some (F, i) := by decide +kernel
set_option maxRecDepth 100000 in
theorem tb_inv0 : (List.range tb_all.length).all (fun j => match tb_all[j]? with | some c => tb_pos c.1 c.2 == j | none => true) = true := by decide +kernel
theorem tb_inv : ∀ (j : Nat) (c : Nat × Nat), tb_all[j]? = some c → tb_pos c.1 c.2 = j := by
  intro j c h
  have hj : j < tb_all.length := (List.getElem?_eq_some_iff.mp h).1
  have h1 := List.all_eq_true.mp tb_inv0 j (List.mem_range.mpr hj)
  rw [h] at h1
  simpa using h1
def tyL (tc : Nat → ClassId) : List (ClassId × FieldType) := [(tc 0, .int), (tc 1, .long), (tc 2, .boolean), (tc 3, .object "VillageMail$Timetable"), (tc 4, .object "VillageMail$Store"), (tc 5, .object "VillageMail$Boxes"), (tc 6, .object "VillageMail$Box"), (tc 7, .object "VillageMail$Letter")]
def ctR (K : KK) (F i : Nat) (r : Nat → Int32) (q : Nat → Int64) : va_E := match F with
  | 0 => .inr (7, [.int (r 0), .ref (aa K 1 7), .ref (aa K 5 0), .int (r 3), .ref (aa K 6 0), .ref (aa K 12 0), .ref (aa K 18 0), .int (r 7), .ref (aa K 21 0), .int (r 9), .ref (aa K 22 0), .ref (aa K 22 1), .ref (aa K 26 0), .ref (aa K 26 1), .int (r 14), .int (r 15)])
  | 1 => .inr (6, [.ref (aa K 2 i), .ref (aa K 3 i), .ref (aa K 4 i), .int (r 3)])
  | 2 => .inl (K.2.2.1 0, 24, .inl r)
  | 3 => .inl (K.2.2.1 0, 24, .inl r)
  | 4 => .inl (K.2.2.1 0, 24, .inl r)
  | 5 => .inl (K.2.2.1 3, 7, .inr (.inr (.inr (.inr (fun j => some (aa K 1 j))))))
  | 6 => .inl (K.2.2.1 4, 12, .inr (.inr (.inr (.inr (fun j => some (aa K 7 j))))))
  | 7 => .inr (5, [.int (r 0), .ref (aa K 8 i), .ref (aa K 9 i), .ref (aa K 10 i), .ref (aa K 11 i), .int (r 5), .int (r 6), .int (r 7), .int (r 8)])
  | 8 => .inl (K.2.2.1 0, 64, .inl r)
  | 9 => .inl (K.2.2.1 0, 64, .inl r)
  | 10 => .inl (K.2.2.1 1, 64, .inr (.inl q))
  | 11 => .inl (K.2.2.1 0, 16, .inl r)
  | 12 => .inl (K.2.2.1 5, 8, .inr (.inr (.inr (.inr (fun j => some (aa K 13 j))))))
  | 13 => .inr (1, [.ref (aa K 14 i), .ref (aa K 15 i)])
  | 14 => .inl (K.2.2.1 6, 3, .inr (.inr (.inr (.inr (fun j => some (aa K 16 (3 * i + j)))))))
  | 15 => .inl (K.2.2.1 0, 2, .inl r)
  | 16 => .inr (0, [.ref (aa K 17 i), .int (r 1), .int (r 2), .int (r 3)])
  | 17 => .inl (K.2.2.1 0, 16, .inl r)
  | 18 => .inl (K.2.2.1 7, 16, .inr (.inr (.inr (.inr (fun j => some (aa K 19 j))))))
  | 19 => .inr (2, [.int (r 0), .int (r 1), .int (r 2), .int (r 3), .int (r 4), .int (r 5), .int (r 6), .int (r 7), .int (r 8), .int (r 9), .ref (aa K 20 i)])
  | 20 => .inl (K.2.2.1 1, 4, .inr (.inl q))
  | 21 => .inl (K.2.2.1 1, 4, .inr (.inl q))
  | 22 => .inr (4, [.ref (aa K 23 i), .ref (aa K 24 i), .ref (aa K 25 i)])
  | 23 => .inl (K.2.2.1 0, 8, .inl r)
  | 24 => .inl (K.2.2.1 0, 8, .inl r)
  | 25 => .inl (K.2.2.1 2, 4, .inl r)
  | 26 => .inr (3, [.ref (aa K 27 i), .int (r 1)])
  | 27 => .inl (K.2.2.1 0, 24, .inl r)
  | 30 => .inr (8, [.ref (aa K 31 0), .ref (aa K 32 0), .ref (aa K 33 0), .ref (aa K 34 0), .int (r 4), .int (r 5), .ref (aa K 35 0), .int (r 7), .ref (aa K 36 0), .ref (aa K 37 0), .ref (aa K 38 0), .ref (aa K 39 0), .ref (aa K 40 0), .ref (aa K 41 0), .ref (aa K 42 0), .ref (aa K 43 0), .ref (aa K 44 0), .ref (aa K 45 0), .ref (aa K 46 0), .ref (aa K 47 0), .ref (aa K 48 0), .ref (aa K 49 0), .ref (aa K 50 0), .ref (aa K 51 0), .ref (aa K 52 0), .ref (aa K 53 0), .ref (aa K 54 0), .ref (aa K 55 0), .ref (aa K 56 0), .ref (aa K 57 0), .int (r 30), .int (r 31), .ref (aa K 58 0), .ref (aa K 59 0), .ref (aa K 60 0), .int (r 35), .int (r 36), .ref (aa K 61 0)])
  | 31 => .inl (K.2.2.1 0, 192, .inl r)
  | 32 => .inl (K.2.2.1 0, 192, .inl r)
  | 33 => .inl (K.2.2.1 0, 192, .inl r)
  | 34 => .inl (K.2.2.1 0, 8, .inl r)
  | 35 => .inl (K.2.2.1 0, 12, .inl r)
  | 36 => .inl (K.2.2.1 0, 16, .inl r)
  | 37 => .inl (K.2.2.1 0, 16, .inl r)
  | 38 => .inl (K.2.2.1 0, 16, .inl r)
  | 39 => .inl (K.2.2.1 0, 16, .inl r)
  | 40 => .inl (K.2.2.1 0, 16, .inl r)
  | 41 => .inl (K.2.2.1 0, 16, .inl r)
  | 42 => .inl (K.2.2.1 0, 16, .inl r)
  | 43 => .inl (K.2.2.1 0, 16, .inl r)
  | 44 => .inl (K.2.2.1 2, 16, .inl r)
  | 45 => .inl (K.2.2.1 0, 512, .inl r)
  | 46 => .inl (K.2.2.1 2, 768, .inl r)
  | 47 => .inl (K.2.2.1 0, 768, .inl r)
  | 48 => .inl (K.2.2.1 0, 768, .inl r)
  | 49 => .inl (K.2.2.1 0, 6144, .inl r)
  | 50 => .inl (K.2.2.1 0, 192, .inl r)
  | 51 => .inl (K.2.2.1 0, 12, .inl r)
  | 52 => .inl (K.2.2.1 0, 12, .inl r)
  | 53 => .inl (K.2.2.1 0, 24, .inl r)
  | 54 => .inl (K.2.2.1 0, 24, .inl r)
  | 55 => .inl (K.2.2.1 0, 384, .inl r)
  | 56 => .inl (K.2.2.1 2, 48, .inl r)
  | 57 => .inl (K.2.2.1 0, 32, .inl r)
  | 58 => .inl (K.2.2.1 2, 4, .inl r)
  | 59 => .inl (K.2.2.1 0, 8, .inl r)
  | 60 => .inl (K.2.2.1 2, 128, .inl r)
  | 61 => .inl (K.2.2.1 0, 8, .inl r)
  | 70 => .inl (K.2.2.1 1, 1, .inr (.inl q))
  | _ => .inr (0, [])
def ct (K : KK) (σ : Mem) (F i : Nat) : va_E := ctR K F i (σ.1 F i) (σ.2 F i)
def FL (K : KK) (σ : Mem) : va_W := tb_all.map fun c => (aa K c.1 c.2, ct K σ c.1 c.2)
def AK (K : KK) : Nat → Prop := fun q => ∃ F i, F < 72 ∧ i < cnt F ∧ q = aa K F i
def exn : Nat → String
  | 1 => "java/lang/IllegalArgumentException"
  | 2 => "java/lang/IllegalStateException"
  | 3 => "java/lang/IndexOutOfBoundsException"
  | _ => "java/util/NoSuchElementException"
-- a static of Throwable that holds a reference or null, in a cell that no row of ours touches
def Sta (A : Nat → Prop) (U : State) (H : Heap) (n d : String) : Prop := ∃ (c : ClassId) (k : Class) (i : Nat) (f : Field) (a : Nat) (cell : Cell) (v : Value), U.vm.findClass Bundle.tN = some c ∧ U.fieldFound? Bundle.tN n d = some (c, k, i, f) ∧ f.isStatic = true ∧ k.statics = some a ∧ k.staticTypes[f.slot]? = some f.type ∧ H[a]? = some cell ∧ cell.vm.isStatics = true ∧ cell.cls = c ∧ f.slot < cell.slots.size ∧ cell.slots[f.slot]? = some v ∧ v.isRef = true ∧ ¬ A a
def StU (K : KK) (U : State) (H : Heap) : Prop := Sta (AK K) U H "UNASSIGNED_STACK" Bundle.steD
def StN (K : KK) (U : State) (H : Heap) : Prop := Sta (AK K) U H "SUPPRESSED_SENTINEL" Bundle.listD
def Wd (K : KK) (σ : Mem) (U : State) : Prop := va_P K.2.1 vwCl (FL K σ) U.heap ∧ va_D (AK K) (FL K σ) ∧ va_K K.2.1 vwCl (tyL K.2.2.1) U ∧ StU K U U.heap ∧ StN K U U.heap
def PcO (K : KK) (av : List Value) (σ : Mem) : Array Value → State → Prop := fun a U => a = av.toArray ∧ Wd K σ U
def QcR (K : KK) (r : Option Value) (q : Mem) : Array Value → State → Outcome → State → Prop := fun _ st oc t => oc = .returned r ∧ Wd K q t ∧ va_F (AK K) st t
def TqO (K : KK) (e : Nat) (q : Mem) : State → Outcome → State → Prop := fun st oc t => ∃ (x : Addr) (ce : Cell) (L : List Loc), oc = .threw x ∧ t.heap[x]? = some ce ∧ ce.vm = .none ∧ st.vm.findClass (exn e) = some ce.cls ∧ Wd K q t ∧ va_F (AK K) st t ∧ st.WarmedH t.vm ∧ st.sameButNew ({ t with vm := st.vm } : State) L 1 6 ∧ ∀ z ∈ L, AK K z.base
def Ct (l : Launch) (K : KK) (y : MethodName) (b : ByteArray) (mL : Nat) (rt : Option FieldType) (fr lo : Nat) (av : List Value) (σ : Mem) (o : Oc) (q : Mem) : Prop := l.stackTraces = false → match o with
  | .inr r => Met l y (.code y b mL rt :: wAll) { frames := fr, cells := 0, slots := 0, locals := lo } (PcO K av σ) (QcR K r q) 0 0 (AK K)
  | .inl e => MetFree l y (headSpec (.code y b mL rt :: wAll) { frames := fr, cells := 1, slots := 6, locals := lo }) (PcO K av σ) (fun _ _ _ _ _ => True) (fun _ st oc t => TqO K e q st oc t)
def Good (K : KK) (Γ : Cx) (cc : ByteArray) (own : String) (nL fr lo : Nat) : Prop := match Γ with
  | (p, l, _, R, s, m, args, _, meth, c, _, _, _) => p.tables.exec = Jvm.exec ∧ c.code = cc ∧ c.maxLocals = nL ∧ s.vm.findClass own = some m.cls ∧ (∀ w ∈ wAll, w.before args s = true) ∧ va_K K.2.1 vwCl (tyL K.2.2.1) s ∧ (fr ≤ R.frames ∧ lo ≤ R.locals) ∧ meth.locks = false ∧ (∃ σ0, va_P K.2.1 vwCl (FL K σ0) s.heap) ∧ l.stackTraces = false ∧ StU K s s.heap ∧ StN K s s.heap
def EQ (K : KK) (below : List Frame) (args : Array Value) (s : State) (o : Oc) (q : Mem) : State → Prop := match o with
  | .inr r => MQ below (QcR K r q) args s 0 0 (AK K)
  | .inl e => fun t => ∃ oc, t.status = .running ∧ Ended t below oc ∧ TqO K e q s oc t
def Ends (K : KK) (Γ : Cx) (rt : Option FieldType) (o : Oc) (q : Mem) : Prop := match Γ with
  | (_, _, _, R, s, _, args, below, meth, c, Q, c0, s0) => Q = EQ K below args s o q ∧ meth.sig.returnType = rt ∧ (∀ pc, ∀ x ∈ c.exceptionTable.toList, covers x pc = false) ∧ (∀ e, o = .inl e → 1 ≤ R.cells ∧ 6 ≤ R.slots) ∧ c0 = 0 ∧ s0 = 0
def WW (K : KK) (Γ : Cx) (n : Nat) (σ : Mem) (pc : Nat) (L : List (Nat × Value)) (S : List Value) : Prop := match Γ with
  | (p, l, e, R, s, m, args, below, meth, c, Q, c0, s0) => ∀ (H : Heap) (locs : List Loc) (ls : Array Slot), lv_has ls c.maxLocals L → va_P K.2.1 vwCl (FL K σ) H → va_D (AK K) (FL K σ) → va_S (AK K) s.heap H locs → W p l e R s m args below meth c H locs (c0 + n) (s0 + 6 * n) Q (F0 m pc ls S)
def ArI (F N : Nat) : Prop := F < 72 ∧ ∀ K i r q, ctR K F i r q = .inl (K.2.2.1 0, N, .inl r)
def ArZ (F N : Nat) : Prop := F < 72 ∧ ∀ K i r q, ctR K F i r q = .inl (K.2.2.1 2, N, .inl r)
def ArJ (F N : Nat) : Prop := F < 72 ∧ ∀ K i r q, ctR K F i r q = .inl (K.2.2.1 1, N, .inr (.inl q))
def ArA (F N t : Nat) (C : String) (F2 : Nat) (g : Nat → Nat → Nat) : Prop := F < 72 ∧ (∀ K : KK, (tyL K.2.2.1)[t]? = some (K.2.2.1 t, .object C)) ∧ ∀ K i r q, ctR K F i r q = .inl (K.2.2.1 t, N, .inr (.inr (.inr (.inr (fun j => some (aa K F2 (g i j)))))))
def FsI (own : String) (idx F q : Nat) (ty : FieldType) (fn : Bool) : Prop := F < 72 ∧ ∃ (ci : Nat) (C : String) (T : u_T) (N : Nat) (ty0 : Nat → FieldType), vwCl[ci]? = some (C, T, N) ∧ q < N ∧ (∀ w ∈ u_ws C T N, w ∈ wAll) ∧ Cond.fieldLink own idx (T q).1 (T q).2.1 (T q).2.2.1 ∈ wAll ∧
  (∀ K i r j, ∃ fl, ctR K F i r j = .inr (ci, fl) ∧ fl[q]? = some (.int (r q)) ∧ q < fl.length ∧ ∀ v, ctR K F i (upd r q v) j = .inr (ci, fl.set q (.int v))) ∧ (∀ k, k < N → parseFieldDescriptor (T k).2.2.1 = some (ty0 k)) ∧ (∀ a, a < N → ∀ b, b < N → a ≠ b → (T a).2.1 ≠ (T b).2.1) ∧ (T q).2.2.2 = fn ∧ parseFieldDescriptor (T q).2.2.1 = some ty
def FsR (own : String) (idx F q F2 : Nat) (g : Nat → Nat) : Prop := F < 72 ∧ ∃ (ci : Nat) (C : String) (T : u_T) (N : Nat), vwCl[ci]? = some (C, T, N) ∧ q < N ∧ (∀ w ∈ u_ws C T N, w ∈ wAll) ∧ Cond.fieldLink own idx (T q).1 (T q).2.1 (T q).2.2.1 ∈ wAll ∧
  (∀ K i r j, ∃ fl, ctR K F i r j = .inr (ci, fl) ∧ fl[q]? = some (.ref (aa K F2 (g i))))
def CsV (own : String) (idx : Nat) (y : MethodName) (b : ByteArray) (mL : Nat) (rt : Option FieldType) (na F : Nat) : Prop := F < 72 ∧ ∃ (ci : Nat) (T : u_T) (N : Nat), vwCl[ci]? = some (y.cls, T, N) ∧ (∀ K i r j, ∃ fl, ctR K F i r j = .inr (ci, fl)) ∧ GoodIn wAll (wsV own idx y.cls y (.code y b mL rt :: wAll)) ∧ (y.cls ≠ "java/lang/invoke/MethodHandle" ∧ y.cls ≠ "java/lang/invoke/VarHandle" ∧ (parseMethodDescriptor y.desc).map (fun d => d.parameters.length) = some na)
def CsS (own : String) (idx : Nat) (y : MethodName) (b : ByteArray) (mL : Nat) (rt : Option FieldType) (na : Nat) : Prop := GoodIn wAll (va_wsS own idx y (.code y b mL rt :: wAll)) ∧ (y.cls ≠ "java/lang/invoke/MethodHandle" ∧ y.cls ≠ "java/lang/invoke/VarHandle" ∧ (parseMethodDescriptor y.desc).map (fun d => d.parameters.length) = some na)
def Mx (own : String) (idx : Nat) (y : MethodName) (b : ByteArray) : Prop := Cond.methodLink own idx y ∈ wAll ∧ Cond.static y ∈ wAll ∧ Cond.initialized "java/lang/Math" ∈ wAll ∧ Cond.code y b 2 (some .int) ∈ wAll
def Ac (own : String) (idx : Nat) : Prop := Cond.methodLink own idx arraycopyName ∈ wAll ∧ Cond.native arraycopyName ∈ wAll ∧ Cond.static arraycopyName ∈ wAll ∧ Cond.initialized "java/lang/System" ∈ wAll
def Xs (own : String) (ik ic : Nat) (cls : String) (e : Nat) : Prop := exn e = cls ∧ Cond.classLink own ik cls ∈ wAll ∧ Cond.initialized cls ∈ wAll ∧ True
theorem ar_2 : ArI 2 24 := ⟨by decide, fun _ _ _ _ => rfl⟩
theorem ar_3 : ArI 3 24 := ⟨by decide, fun _ _ _ _ => rfl⟩
theorem ar_4 : ArI 4 24 := ⟨by decide, fun _ _ _ _ => rfl⟩
theorem ar_5 : ArA 5 7 3 "VillageMail$Timetable" 1 (fun i j => j) := ⟨by decide, fun _ => rfl, fun _ _ _ _ => rfl⟩
theorem ar_6 : ArA 6 12 4 "VillageMail$Store" 7 (fun i j => j) := ⟨by decide, fun _ => rfl, fun _ _ _ _ => rfl⟩
theorem ar_8 : ArI 8 64 := ⟨by decide, fun _ _ _ _ => rfl⟩
theorem ar_9 : ArI 9 64 := ⟨by decide, fun _ _ _ _ => rfl⟩
theorem ar_10 : ArJ 10 64 := ⟨by decide, fun _ _ _ _ => rfl⟩
theorem ar_11 : ArI 11 16 := ⟨by decide, fun _ _ _ _ => rfl⟩
theorem ar_12 : ArA 12 8 5 "VillageMail$Boxes" 13 (fun i j => j) := ⟨by decide, fun _ => rfl, fun _ _ _ _ => rfl⟩
theorem ar_14 : ArA 14 3 6 "VillageMail$Box" 16 (fun i j => (3 * i + j)) := ⟨by decide, fun _ => rfl, fun _ _ _ _ => rfl⟩
theorem ar_15 : ArI 15 2 := ⟨by decide, fun _ _ _ _ => rfl⟩
theorem ar_17 : ArI 17 16 := ⟨by decide, fun _ _ _ _ => rfl⟩
theorem ar_18 : ArA 18 16 7 "VillageMail$Letter" 19 (fun i j => j) := ⟨by decide, fun _ => rfl, fun _ _ _ _ => rfl⟩
theorem ar_20 : ArJ 20 4 := ⟨by decide, fun _ _ _ _ => rfl⟩
theorem ar_21 : ArJ 21 4 := ⟨by decide, fun _ _ _ _ => rfl⟩
theorem ar_23 : ArI 23 8 := ⟨by decide, fun _ _ _ _ => rfl⟩
theorem ar_24 : ArI 24 8 := ⟨by decide, fun _ _ _ _ => rfl⟩
theorem ar_25 : ArZ 25 4 := ⟨by decide, fun _ _ _ _ => rfl⟩
theorem ar_27 : ArI 27 24 := ⟨by decide, fun _ _ _ _ => rfl⟩
theorem ar_31 : ArI 31 192 := ⟨by decide, fun _ _ _ _ => rfl⟩
theorem ar_32 : ArI 32 192 := ⟨by decide, fun _ _ _ _ => rfl⟩
theorem ar_33 : ArI 33 192 := ⟨by decide, fun _ _ _ _ => rfl⟩
theorem ar_34 : ArI 34 8 := ⟨by decide, fun _ _ _ _ => rfl⟩
theorem ar_35 : ArI 35 12 := ⟨by decide, fun _ _ _ _ => rfl⟩
theorem ar_36 : ArI 36 16 := ⟨by decide, fun _ _ _ _ => rfl⟩
theorem ar_37 : ArI 37 16 := ⟨by decide, fun _ _ _ _ => rfl⟩
theorem ar_38 : ArI 38 16 := ⟨by decide, fun _ _ _ _ => rfl⟩
theorem ar_39 : ArI 39 16 := ⟨by decide, fun _ _ _ _ => rfl⟩
theorem ar_40 : ArI 40 16 := ⟨by decide, fun _ _ _ _ => rfl⟩
theorem ar_41 : ArI 41 16 := ⟨by decide, fun _ _ _ _ => rfl⟩
theorem ar_42 : ArI 42 16 := ⟨by decide, fun _ _ _ _ => rfl⟩
theorem ar_43 : ArI 43 16 := ⟨by decide, fun _ _ _ _ => rfl⟩
theorem ar_44 : ArZ 44 16 := ⟨by decide, fun _ _ _ _ => rfl⟩
theorem ar_45 : ArI 45 512 := ⟨by decide, fun _ _ _ _ => rfl⟩
theorem ar_46 : ArZ 46 768 := ⟨by decide, fun _ _ _ _ => rfl⟩
theorem ar_47 : ArI 47 768 := ⟨by decide, fun _ _ _ _ => rfl⟩
theorem ar_48 : ArI 48 768 := ⟨by decide, fun _ _ _ _ => rfl⟩
theorem ar_49 : ArI 49 6144 := ⟨by decide, fun _ _ _ _ => rfl⟩
theorem ar_50 : ArI 50 192 := ⟨by decide, fun _ _ _ _ => rfl⟩
theorem ar_51 : ArI 51 12 := ⟨by decide, fun _ _ _ _ => rfl⟩
theorem ar_52 : ArI 52 12 := ⟨by decide, fun _ _ _ _ => rfl⟩
theorem ar_53 : ArI 53 24 := ⟨by decide, fun _ _ _ _ => rfl⟩
theorem ar_54 : ArI 54 24 := ⟨by decide, fun _ _ _ _ => rfl⟩
theorem ar_55 : ArI 55 384 := ⟨by decide, fun _ _ _ _ => rfl⟩
theorem ar_56 : ArZ 56 48 := ⟨by decide, fun _ _ _ _ => rfl⟩
theorem ar_57 : ArI 57 32 := ⟨by decide, fun _ _ _ _ => rfl⟩
theorem ar_58 : ArZ 58 4 := ⟨by decide, fun _ _ _ _ => rfl⟩
theorem ar_59 : ArI 59 8 := ⟨by decide, fun _ _ _ _ => rfl⟩
theorem ar_60 : ArZ 60 128 := ⟨by decide, fun _ _ _ _ => rfl⟩
theorem ar_61 : ArI 61 8 := ⟨by decide, fun _ _ _ _ => rfl⟩
theorem ar_70 : ArJ 70 1 := ⟨by decide, fun _ _ _ _ => rfl⟩
def y_B_fits : MethodName := ⟨"VillageMail$Box", "fits", "(I)Z"⟩
abbrev b_B_fits : ByteArray := prog_2_method_2_code
def y_B_put : MethodName := ⟨"VillageMail$Box", "put", "(II)V"⟩
abbrev b_B_put : ByteArray := prog_2_method_3_code
def y_B_takeOut : MethodName := ⟨"VillageMail$Box", "takeOut", "(II)V"⟩
abbrev b_B_takeOut : ByteArray := prog_2_method_4_code
def y_C_toggle : MethodName := ⟨"VillageMail$Boxes", "toggle", "(II)Z"⟩
abbrev b_C_toggle : ByteArray := prog_3_method_2_code
def y_C_addressedBy : MethodName := ⟨"VillageMail$Boxes", "addressedBy", "(I)I"⟩
abbrev b_C_addressedBy : ByteArray := prog_3_method_3_code
def y_C_allFit : MethodName := ⟨"VillageMail$Boxes", "allFit", "(II)Z"⟩
abbrev b_C_allFit : ByteArray := prog_3_method_5_code
def y_C_putInto : MethodName := ⟨"VillageMail$Boxes", "putInto", "(III)Z"⟩
abbrev b_C_putInto : ByteArray := prog_3_method_4_code
def y_O_add : MethodName := ⟨"VillageMail$Offers", "add", "(I)V"⟩
abbrev b_O_add : ByteArray := prog_5_method_2_code
def y_T_find : MethodName := ⟨"VillageMail$Timetable", "find", "(II)I"⟩
abbrev b_T_find : ByteArray := prog_8_method_2_code
def y_T_set : MethodName := ⟨"VillageMail$Timetable", "set", "(IIII)V"⟩
abbrev b_T_set : ByteArray := prog_8_method_6_code
def y_T_insert : MethodName := ⟨"VillageMail$Timetable", "insert", "(III)V"⟩
abbrev b_T_insert : ByteArray := prog_8_method_3_code
def y_T_takeOut : MethodName := ⟨"VillageMail$Timetable", "takeOut", "(I)V"⟩
abbrev b_T_takeOut : ByteArray := prog_8_method_4_code
def y_T_become : MethodName := ⟨"VillageMail$Timetable", "become", "(LVillageMail$Timetable;)V"⟩
abbrev b_T_become : ByteArray := prog_8_method_5_code
def y_S_room : MethodName := ⟨"VillageMail$Store", "room", "()I"⟩
abbrev b_S_room : ByteArray := prog_7_method_2_code
def y_S_has : MethodName := ⟨"VillageMail$Store", "has", "(I)Z"⟩
abbrev b_S_has : ByteArray := prog_7_method_3_code
def y_S_countOf : MethodName := ⟨"VillageMail$Store", "countOf", "(I)I"⟩
abbrev b_S_countOf : ByteArray := prog_7_method_4_code
def y_S_take : MethodName := ⟨"VillageMail$Store", "take", "(IJI)V"⟩
abbrev b_S_take : ByteArray := prog_7_method_5_code
def y_S_free : MethodName := ⟨"VillageMail$Store", "free", "(I)V"⟩
abbrev b_S_free : ByteArray := prog_7_method_6_code
def y_S_freeAllOf : MethodName := ⟨"VillageMail$Store", "freeAllOf", "(I)V"⟩
abbrev b_S_freeAllOf : ByteArray := prog_7_method_7_code
def y_S_learnHops : MethodName := ⟨"VillageMail$Store", "learnHops", "(II)V"⟩
abbrev b_S_learnHops : ByteArray := prog_7_method_8_code
def y_S_unlearn : MethodName := ⟨"VillageMail$Store", "unlearn", "(I)V"⟩
abbrev b_S_unlearn : ByteArray := prog_7_method_9_code
def y_S_learnOf : MethodName := ⟨"VillageMail$Store", "learnOf", "(II)V"⟩
abbrev b_S_learnOf : ByteArray := prog_7_method_10_code
def y_S_forgetPieces : MethodName := ⟨"VillageMail$Store", "forgetPieces", "()V"⟩
abbrev b_S_forgetPieces : ByteArray := prog_7_method_11_code
def y_R_clear : MethodName := ⟨"VillageMail$Ride", "clear", "()V"⟩
abbrev b_R_clear : ByteArray := prog_6_method_4_code
def y_J_floorMod : MethodName := ⟨"java/lang/Math", "floorMod", "(II)I"⟩
abbrev b_J_floorMod : ByteArray := prog_15_method_50_code
def y_R_seeStop : MethodName := ⟨"VillageMail$Ride", "seeStop", "(III)V"⟩
abbrev b_R_seeStop : ByteArray := prog_6_method_6_code
def y_R_goBy : MethodName := ⟨"VillageMail$Ride", "goBy", "(LVillageMail$Timetable;II)V"⟩
abbrev b_R_goBy : ByteArray := prog_6_method_5_code
def y_R_startAtKiosk : MethodName := ⟨"VillageMail$Ride", "startAtKiosk", "(LVillageMail$Timetable;II)V"⟩
abbrev b_R_startAtKiosk : ByteArray := prog_6_method_2_code
def y_R_startOnBus : MethodName := ⟨"VillageMail$Ride", "startOnBus", "(LVillageMail$Timetable;II)V"⟩
abbrev b_R_startOnBus : ByteArray := prog_6_method_3_code
def y_X_isBus : MethodName := ⟨"VillageMail", "isBus", "(I)Z"⟩
abbrev b_X_isBus : ByteArray := prog_1_method_40_code
def y_X_demand : MethodName := ⟨"VillageMail", "demand", "(Z)V"⟩
abbrev b_X_demand : ByteArray := prog_1_method_36_code
def y_X_isWithin : MethodName := ⟨"VillageMail", "isWithin", "(II)Z"⟩
abbrev b_X_isWithin : ByteArray := prog_1_method_38_code
def y_X_isKiosk : MethodName := ⟨"VillageMail", "isKiosk", "(I)Z"⟩
abbrev b_X_isKiosk : ByteArray := prog_1_method_39_code
def y_X_stop : MethodName := ⟨"VillageMail", "stop", "(III)I"⟩
abbrev b_X_stop : ByteArray := prog_1_method_2_code
def y_X_cancel : MethodName := ⟨"VillageMail", "cancel", "(II)Z"⟩
abbrev b_X_cancel : ByteArray := prog_1_method_3_code
def y_X_publish : MethodName := ⟨"VillageMail", "publish", "()I"⟩
abbrev b_X_publish : ByteArray := prog_1_method_4_code
def y_X_arrival : MethodName := ⟨"VillageMail", "arrival", "(IIII)I"⟩
abbrev b_X_arrival : ByteArray := prog_1_method_6_code
def y_X_best : MethodName := ⟨"VillageMail", "best", "(III)I"⟩
abbrev b_X_best : ByteArray := prog_1_method_5_code
def y_X_isBox : MethodName := ⟨"VillageMail", "isBox", "(II)Z"⟩
abbrev b_X_isBox : ByteArray := prog_1_method_42_code
def y_X_piecesIn : MethodName := ⟨"VillageMail", "piecesIn", "(I)I"⟩
abbrev b_X_piecesIn : ByteArray := prog_1_method_43_code
def y_X_byteAt : MethodName := ⟨"VillageMail", "byteAt", "(JI)I"⟩
abbrev b_X_byteAt : ByteArray := prog_1_method_44_code
def y_X_sumOf : MethodName := ⟨"VillageMail", "sumOf", "([JI)I"⟩
abbrev b_X_sumOf : ByteArray := prog_1_method_46_code
def y_X_lookAt : MethodName := ⟨"VillageMail", "lookAt", "(I)V"⟩
abbrev b_X_lookAt : ByteArray := prog_1_method_22_code
def y_X_lookAtAllOf : MethodName := ⟨"VillageMail", "lookAtAllOf", "(I)V"⟩
abbrev b_X_lookAtAllOf : ByteArray := prog_1_method_21_code
def y_X_household : MethodName := ⟨"VillageMail", "household", "(III)V"⟩
abbrev b_X_household : ByteArray := prog_1_method_7_code
def y_X_group : MethodName := ⟨"VillageMail", "group", "(III)Z"⟩
abbrev b_X_group : ByteArray := prog_1_method_8_code
def y_X_box : MethodName := ⟨"VillageMail", "box", "(III)I"⟩
abbrev b_X_box : ByteArray := prog_1_method_9_code
def y_X_demandIndex : MethodName := ⟨"VillageMail", "demandIndex", "(II)V"⟩
abbrev b_X_demandIndex : ByteArray := prog_1_method_37_code
def y_X_read : MethodName := ⟨"VillageMail", "read", "(IIII)I"⟩
abbrev b_X_read : ByteArray := prog_1_method_10_code
def y_X_remove : MethodName := ⟨"VillageMail", "remove", "(III)I"⟩
abbrev b_X_remove : ByteArray := prog_1_method_11_code
def y_X_shifted : MethodName := ⟨"VillageMail", "shifted", "(II)J"⟩
abbrev b_X_shifted : ByteArray := prog_1_method_45_code
def y_X_key : MethodName := ⟨"VillageMail", "key", "(I)Z"⟩
abbrev b_X_key : ByteArray := prog_1_method_12_code
def y_X_handOverText : MethodName := ⟨"VillageMail", "handOverText", "(LVillageMail$Store;I)V"⟩
abbrev b_X_handOverText : ByteArray := prog_1_method_14_code
def y_X_post : MethodName := ⟨"VillageMail", "post", "(IIII)I"⟩
abbrev b_X_post : ByteArray := prog_1_method_13_code
def y_X_status : MethodName := ⟨"VillageMail", "status", "(I)I"⟩
abbrev b_X_status : ByteArray := prog_1_method_15_code
def y_X_custodians : MethodName := ⟨"VillageMail", "custodians", "(I)I"⟩
abbrev b_X_custodians : ByteArray := prog_1_method_16_code
def y_X_promise : MethodName := ⟨"VillageMail", "promise", "(I)I"⟩
abbrev b_X_promise : ByteArray := prog_1_method_17_code
def y_X_dropCopies : MethodName := ⟨"VillageMail", "dropCopies", "(IZ)V"⟩
abbrev b_X_dropCopies : ByteArray := prog_1_method_20_code
def y_X_expireWhatIsDue : MethodName := ⟨"VillageMail", "expireWhatIsDue", "()V"⟩
abbrev b_X_expireWhatIsDue : ByteArray := prog_1_method_19_code
def y_X_minute : MethodName := ⟨"VillageMail", "minute", "(I)I"⟩
abbrev b_X_minute : ByteArray := prog_1_method_18_code
def y_X_shareTimetable : MethodName := ⟨"VillageMail", "shareTimetable", "(LVillageMail$Store;LVillageMail$Store;)V"⟩
abbrev b_X_shareTimetable : ByteArray := prog_1_method_26_code
def y_X_firmer : MethodName := ⟨"VillageMail", "firmer", "(II)I"⟩
abbrev b_X_firmer : ByteArray := prog_1_method_28_code
def y_X_shareNews : MethodName := ⟨"VillageMail", "shareNews", "(LVillageMail$Store;LVillageMail$Store;)V"⟩
abbrev b_X_shareNews : ByteArray := prog_1_method_27_code
def y_X_offerPiecesOf : MethodName := ⟨"VillageMail", "offerPiecesOf", "(III)V"⟩
abbrev b_X_offerPiecesOf : ByteArray := prog_1_method_30_code
def y_X_settleOffers : MethodName := ⟨"VillageMail", "settleOffers", "(II)V"⟩
abbrev b_X_settleOffers : ByteArray := prog_1_method_29_code
def y_X_movePiece : MethodName := ⟨"VillageMail", "movePiece", "(ILVillageMail$Store;LVillageMail$Store;)Z"⟩
abbrev b_X_movePiece : ByteArray := prog_1_method_32_code
def y_X_moveOffered : MethodName := ⟨"VillageMail", "moveOffered", "(LVillageMail$Offers;III)I"⟩
abbrev b_X_moveOffered : ByteArray := prog_1_method_31_code
def y_X_hold : MethodName := ⟨"VillageMail", "hold", "(III)I"⟩
abbrev b_X_hold : ByteArray := prog_1_method_25_code
def y_X_meet : MethodName := ⟨"VillageMail", "meet", "(III)I"⟩
abbrev b_X_meet : ByteArray := prog_1_method_23_code
def y_X_breakOff : MethodName := ⟨"VillageMail", "breakOff", "(III)I"⟩
abbrev b_X_breakOff : ByteArray := prog_1_method_24_code
def y_X_isStore : MethodName := ⟨"VillageMail", "isStore", "(I)Z"⟩
abbrev b_X_isStore : ByteArray := prog_1_method_41_code
def y_X_reboot : MethodName := ⟨"VillageMail", "reboot", "(I)V"⟩
abbrev b_X_reboot : ByteArray := prog_1_method_33_code
def y_X_spoil : MethodName := ⟨"VillageMail", "spoil", "(IIIII)I"⟩
abbrev b_X_spoil : ByteArray := prog_1_method_34_code
def y_X_store : MethodName := ⟨"VillageMail", "store", "(II)I"⟩
abbrev b_X_store : ByteArray := prog_1_method_35_code
def y_M_thrown : MethodName := ⟨"VillageMailModel", "thrown", "()I"⟩
abbrev b_M_thrown : ByteArray := prog_10_method_2_code
def y_M_upTo : MethodName := ⟨"VillageMailModel", "upTo", "(II)Z"⟩
abbrev b_M_upTo : ByteArray := prog_10_method_3_code
def y_M_isKiosk : MethodName := ⟨"VillageMailModel", "isKiosk", "(I)Z"⟩
abbrev b_M_isKiosk : ByteArray := prog_10_method_4_code
def y_M_isBus : MethodName := ⟨"VillageMailModel", "isBus", "(I)Z"⟩
abbrev b_M_isBus : ByteArray := prog_10_method_5_code
def y_M_isLetter : MethodName := ⟨"VillageMailModel", "isLetter", "(I)Z"⟩
abbrev b_M_isLetter : ByteArray := prog_10_method_6_code
def y_M_stopAt : MethodName := ⟨"VillageMailModel", "stopAt", "(II)I"⟩
abbrev b_M_stopAt : ByteArray := prog_10_method_7_code
def y_M_copyStop : MethodName := ⟨"VillageMailModel", "copyStop", "(II)V"⟩
abbrev b_M_copyStop : ByteArray := prog_10_method_8_code
def y_M_stop : MethodName := ⟨"VillageMailModel", "stop", "(III)I"⟩
abbrev b_M_stop : ByteArray := prog_10_method_9_code
def y_M_cancel : MethodName := ⟨"VillageMailModel", "cancel", "(II)Z"⟩
abbrev b_M_cancel : ByteArray := prog_10_method_10_code
def y_M_publish : MethodName := ⟨"VillageMailModel", "publish", "()I"⟩
abbrev b_M_publish : ByteArray := prog_10_method_11_code
def y_M_nextStop : MethodName := ⟨"VillageMailModel", "nextStop", "(II)I"⟩
abbrev b_M_nextStop : ByteArray := prog_10_method_12_code
def y_M_passes : MethodName := ⟨"VillageMailModel", "passes", "(III)Z"⟩
abbrev b_M_passes : ByteArray := prog_10_method_13_code
def y_M_arrival : MethodName := ⟨"VillageMailModel", "arrival", "(IIII)I"⟩
abbrev b_M_arrival : ByteArray := prog_10_method_14_code
def y_M_earlier : MethodName := ⟨"VillageMailModel", "earlier", "(II)Z"⟩
abbrev b_M_earlier : ByteArray := prog_10_method_15_code
def y_M_best : MethodName := ⟨"VillageMailModel", "best", "(III)I"⟩
abbrev b_M_best : ByteArray := prog_10_method_16_code
def y_M_pieces : MethodName := ⟨"VillageMailModel", "pieces", "(I)I"⟩
abbrev b_M_pieces : ByteArray := prog_10_method_17_code
def y_M_at : MethodName := ⟨"VillageMailModel", "at", "(III)I"⟩
abbrev b_M_at : ByteArray := prog_10_method_18_code
def y_M_room : MethodName := ⟨"VillageMailModel", "room", "(I)I"⟩
abbrev b_M_room : ByteArray := prog_10_method_19_code
def y_M_hear : MethodName := ⟨"VillageMailModel", "hear", "(II)V"⟩
abbrev b_M_hear : ByteArray := prog_10_method_20_code
def y_M_learn : MethodName := ⟨"VillageMailModel", "learn", "(III)V"⟩
abbrev b_M_learn : ByteArray := prog_10_method_21_code
def y_M_bytesIn : MethodName := ⟨"VillageMailModel", "bytesIn", "(I)I"⟩
abbrev b_M_bytesIn : ByteArray := prog_10_method_22_code
def y_M_isFor : MethodName := ⟨"VillageMailModel", "isFor", "(II)Z"⟩
abbrev b_M_isFor : ByteArray := prog_10_method_23_code
def y_M_complete : MethodName := ⟨"VillageMailModel", "complete", "(I)Z"⟩
abbrev b_M_complete : ByteArray := prog_10_method_24_code
def y_M_turned : MethodName := ⟨"VillageMailModel", "turned", "(I)I"⟩
abbrev b_M_turned : ByteArray := prog_10_method_25_code
def y_M_byteOf : MethodName := ⟨"VillageMailModel", "byteOf", "(III)I"⟩
abbrev b_M_byteOf : ByteArray := prog_10_method_26_code
def y_M_lookAt : MethodName := ⟨"VillageMailModel", "lookAt", "(I)V"⟩
abbrev b_M_lookAt : ByteArray := prog_10_method_27_code
def y_M_lookAll : MethodName := ⟨"VillageMailModel", "lookAll", "(I)V"⟩
abbrev b_M_lookAll : ByteArray := prog_10_method_28_code
def y_M_household : MethodName := ⟨"VillageMailModel", "household", "(III)V"⟩
abbrev b_M_household : ByteArray := prog_10_method_29_code
def y_M_group : MethodName := ⟨"VillageMailModel", "group", "(III)Z"⟩
abbrev b_M_group : ByteArray := prog_10_method_30_code
def y_M_key : MethodName := ⟨"VillageMailModel", "key", "(I)Z"⟩
abbrev b_M_key : ByteArray := prog_10_method_31_code
def y_M_post : MethodName := ⟨"VillageMailModel", "post", "(IIII)I"⟩
abbrev b_M_post : ByteArray := prog_10_method_32_code
def y_M_expire : MethodName := ⟨"VillageMailModel", "expire", "(I)V"⟩
abbrev b_M_expire : ByteArray := prog_10_method_33_code
def y_M_minute : MethodName := ⟨"VillageMailModel", "minute", "(I)I"⟩
abbrev b_M_minute : ByteArray := prog_10_method_34_code
def y_M_exchangeNews : MethodName := ⟨"VillageMailModel", "exchangeNews", "(II)V"⟩
abbrev b_M_exchangeNews : ByteArray := prog_10_method_35_code
def y_M_settle : MethodName := ⟨"VillageMailModel", "settle", "(II)V"⟩
abbrev b_M_settle : ByteArray := prog_10_method_36_code
def y_M_move : MethodName := ⟨"VillageMailModel", "move", "(IIII)Z"⟩
abbrev b_M_move : ByteArray := prog_10_method_37_code
def y_M_give : MethodName := ⟨"VillageMailModel", "give", "(IIII)I"⟩
abbrev b_M_give : ByteArray := prog_10_method_38_code
def y_M_meeting : MethodName := ⟨"VillageMailModel", "meeting", "(III)I"⟩
abbrev b_M_meeting : ByteArray := prog_10_method_39_code
def y_M_meet : MethodName := ⟨"VillageMailModel", "meet", "(III)I"⟩
abbrev b_M_meet : ByteArray := prog_10_method_40_code
def y_M_breakOff : MethodName := ⟨"VillageMailModel", "breakOff", "(III)I"⟩
abbrev b_M_breakOff : ByteArray := prog_10_method_41_code
def y_M_reboot : MethodName := ⟨"VillageMailModel", "reboot", "(I)V"⟩
abbrev b_M_reboot : ByteArray := prog_10_method_42_code
def y_M_spoil : MethodName := ⟨"VillageMailModel", "spoil", "(IIIII)I"⟩
abbrev b_M_spoil : ByteArray := prog_10_method_43_code
def y_M_isBox : MethodName := ⟨"VillageMailModel", "isBox", "(II)Z"⟩
abbrev b_M_isBox : ByteArray := prog_10_method_44_code
def y_M_box : MethodName := ⟨"VillageMailModel", "box", "(III)I"⟩
abbrev b_M_box : ByteArray := prog_10_method_45_code
def y_M_read : MethodName := ⟨"VillageMailModel", "read", "(IIII)I"⟩
abbrev b_M_read : ByteArray := prog_10_method_46_code
def y_M_remove : MethodName := ⟨"VillageMailModel", "remove", "(III)I"⟩
abbrev b_M_remove : ByteArray := prog_10_method_47_code
def y_M_status : MethodName := ⟨"VillageMailModel", "status", "(I)I"⟩
abbrev b_M_status : ByteArray := prog_10_method_48_code
def y_M_custodians : MethodName := ⟨"VillageMailModel", "custodians", "(I)I"⟩
abbrev b_M_custodians : ByteArray := prog_10_method_49_code
def y_M_promise : MethodName := ⟨"VillageMailModel", "promise", "(I)I"⟩
abbrev b_M_promise : ByteArray := prog_10_method_50_code
def y_M_store : MethodName := ⟨"VillageMailModel", "store", "(II)I"⟩
abbrev b_M_store : ByteArray := prog_10_method_51_code
def y_A_fill : MethodName := ⟨"java/util/Arrays", "fill", "([II)V"⟩
abbrev b_A_fill : ByteArray := prog_19_method_103_code
def y_A_fillJ : MethodName := ⟨"java/util/Arrays", "fill", "([JJ)V"⟩
abbrev b_A_fillJ : ByteArray := prog_19_method_101_code
end
section
section VRows
variable {K : KK} {Γ : Cx} {cc : ByteArray} {own : String} {nL fr lo n : Nat} {σ : Mem} {pc : Nat} {L : List (Nat × Value)} {S : List Value} {fin : Oc × Mem}
theorem ww_iadd {x y : Int32} (G : Good K Γ cc own nL fr lo) (d : decode cc pc = .ok (.iadd, 1))  (k : WW K Γ n σ (pc + 1) L (.int (x + y) :: S)) : WW K Γ n σ pc L (.int y :: .int x :: S) := by
  obtain ⟨p, l, e, R, s, m, args, below, meth, c, Q, c0, s0⟩ := Γ
  obtain ⟨hx, hb, hml, hown, hts, hK, hR, hlk, hz, hst, hU, hN⟩ := G
  intro H locs ls hl hP hD hS
  exact lv_iadd hx hb d (k H locs ls hl hP hD hS)
theorem ww_isub {x y : Int32} (G : Good K Γ cc own nL fr lo) (d : decode cc pc = .ok (.isub, 1))  (k : WW K Γ n σ (pc + 1) L (.int (x - y) :: S)) : WW K Γ n σ pc L (.int y :: .int x :: S) := by
  obtain ⟨p, l, e, R, s, m, args, below, meth, c, Q, c0, s0⟩ := Γ
  obtain ⟨hx, hb, hml, hown, hts, hK, hR, hlk, hz, hst, hU, hN⟩ := G
  intro H locs ls hl hP hD hS
  exact lv_isub hx hb d (k H locs ls hl hP hD hS)
theorem ww_imul {x y : Int32} (G : Good K Γ cc own nL fr lo) (d : decode cc pc = .ok (.imul, 1))  (k : WW K Γ n σ (pc + 1) L (.int (x * y) :: S)) : WW K Γ n σ pc L (.int y :: .int x :: S) := by
  obtain ⟨p, l, e, R, s, m, args, below, meth, c, Q, c0, s0⟩ := Γ
  obtain ⟨hx, hb, hml, hown, hts, hK, hR, hlk, hz, hst, hU, hN⟩ := G
  intro H locs ls hl hP hD hS
  exact lv_imul hx hb d (k H locs ls hl hP hD hS)
theorem ww_iand {x y : Int32} (G : Good K Γ cc own nL fr lo) (d : decode cc pc = .ok (.iand, 1))  (k : WW K Γ n σ (pc + 1) L (.int (x &&& y) :: S)) : WW K Γ n σ pc L (.int y :: .int x :: S) := by
  obtain ⟨p, l, e, R, s, m, args, below, meth, c, Q, c0, s0⟩ := Γ
  obtain ⟨hx, hb, hml, hown, hts, hK, hR, hlk, hz, hst, hU, hN⟩ := G
  intro H locs ls hl hP hD hS
  exact lv_iand hx hb d (k H locs ls hl hP hD hS)
theorem ww_ior {x y : Int32} (G : Good K Γ cc own nL fr lo) (d : decode cc pc = .ok (.ior, 1))  (k : WW K Γ n σ (pc + 1) L (.int (x ||| y) :: S)) : WW K Γ n σ pc L (.int y :: .int x :: S) := by
  obtain ⟨p, l, e, R, s, m, args, below, meth, c, Q, c0, s0⟩ := Γ
  obtain ⟨hx, hb, hml, hown, hts, hK, hR, hlk, hz, hst, hU, hN⟩ := G
  intro H locs ls hl hP hD hS
  exact lv_ior hx hb d (k H locs ls hl hP hD hS)
theorem ww_ixor {x y : Int32} (G : Good K Γ cc own nL fr lo) (d : decode cc pc = .ok (.ixor, 1))  (k : WW K Γ n σ (pc + 1) L (.int (x ^^^ y) :: S)) : WW K Γ n σ pc L (.int y :: .int x :: S) := by
  obtain ⟨p, l, e, R, s, m, args, below, meth, c, Q, c0, s0⟩ := Γ
  obtain ⟨hx, hb, hml, hown, hts, hK, hR, hlk, hz, hst, hU, hN⟩ := G
  intro H locs ls hl hP hD hS
  exact lv_ixor hx hb d (k H locs ls hl hP hD hS)
theorem ww_land {x y : Int64} (G : Good K Γ cc own nL fr lo) (d : decode cc pc = .ok (.land, 1))  (k : WW K Γ n σ (pc + 1) L (.long (x &&& y) :: S)) : WW K Γ n σ pc L (.long y :: .long x :: S) := by
  obtain ⟨p, l, e, R, s, m, args, below, meth, c, Q, c0, s0⟩ := Γ
  obtain ⟨hx, hb, hml, hown, hts, hK, hR, hlk, hz, hst, hU, hN⟩ := G
  intro H locs ls hl hP hD hS
  exact lv_land hx hb d (k H locs ls hl hP hD hS)
theorem ww_lxor {x y : Int64} (G : Good K Γ cc own nL fr lo) (d : decode cc pc = .ok (.lxor, 1))  (k : WW K Γ n σ (pc + 1) L (.long (x ^^^ y) :: S)) : WW K Γ n σ pc L (.long y :: .long x :: S) := by
  obtain ⟨p, l, e, R, s, m, args, below, meth, c, Q, c0, s0⟩ := Γ
  obtain ⟨hx, hb, hml, hown, hts, hK, hR, hlk, hz, hst, hU, hN⟩ := G
  intro H locs ls hl hP hD hS
  exact lv_lxor hx hb d (k H locs ls hl hP hD hS)
theorem ww_ishl {x y : Int32} (G : Good K Γ cc own nL fr lo) (d : decode cc pc = .ok (.ishl, 1))  (k : WW K Γ n σ (pc + 1) L (.int (mm_ishl x y) :: S)) : WW K Γ n σ pc L (.int y :: .int x :: S) := by
  obtain ⟨p, l, e, R, s, m, args, below, meth, c, Q, c0, s0⟩ := Γ
  obtain ⟨hx, hb, hml, hown, hts, hK, hR, hlk, hz, hst, hU, hN⟩ := G
  intro H locs ls hl hP hD hS
  exact lv_ishl hx hb d (k H locs ls hl hP hD hS)
theorem ww_ishr {x y : Int32} (G : Good K Γ cc own nL fr lo) (d : decode cc pc = .ok (.ishr, 1))  (k : WW K Γ n σ (pc + 1) L (.int (mm_ishr x y) :: S)) : WW K Γ n σ pc L (.int y :: .int x :: S) := by
  obtain ⟨p, l, e, R, s, m, args, below, meth, c, Q, c0, s0⟩ := Γ
  obtain ⟨hx, hb, hml, hown, hts, hK, hR, hlk, hz, hst, hU, hN⟩ := G
  intro H locs ls hl hP hD hS
  exact lv_ishr hx hb d (k H locs ls hl hP hD hS)
theorem ww_iushr {x y : Int32} (G : Good K Γ cc own nL fr lo) (d : decode cc pc = .ok (.iushr, 1))  (k : WW K Γ n σ (pc + 1) L (.int (mm_iushr x y) :: S)) : WW K Γ n σ pc L (.int y :: .int x :: S) := by
  obtain ⟨p, l, e, R, s, m, args, below, meth, c, Q, c0, s0⟩ := Γ
  obtain ⟨hx, hb, hml, hown, hts, hK, hR, hlk, hz, hst, hU, hN⟩ := G
  intro H locs ls hl hP hD hS
  exact lv_iushr hx hb d rfl (k H locs ls hl hP hD hS)
theorem ww_lshl {x : Int64} {y : Int32} (G : Good K Γ cc own nL fr lo) (d : decode cc pc = .ok (.lshl, 1))  (k : WW K Γ n σ (pc + 1) L (.long (mm_lshl x y) :: S)) : WW K Γ n σ pc L (.int y :: .long x :: S) := by
  obtain ⟨p, l, e, R, s, m, args, below, meth, c, Q, c0, s0⟩ := Γ
  obtain ⟨hx, hb, hml, hown, hts, hK, hR, hlk, hz, hst, hU, hN⟩ := G
  intro H locs ls hl hP hD hS
  exact lv_lshl hx hb d rfl (k H locs ls hl hP hD hS)
theorem ww_lushr {x : Int64} {y : Int32} (G : Good K Γ cc own nL fr lo) (d : decode cc pc = .ok (.lushr, 1))  (k : WW K Γ n σ (pc + 1) L (.long (mm_lushr x y) :: S)) : WW K Γ n σ pc L (.int y :: .long x :: S) := by
  obtain ⟨p, l, e, R, s, m, args, below, meth, c, Q, c0, s0⟩ := Γ
  obtain ⟨hx, hb, hml, hown, hts, hK, hR, hlk, hz, hst, hU, hN⟩ := G
  intro H locs ls hl hP hD hS
  exact lv_lushr hx hb d rfl (k H locs ls hl hP hD hS)
theorem ww_l2i {x : Int64} (G : Good K Γ cc own nL fr lo) (d : decode cc pc = .ok (.l2i, 1))  (k : WW K Γ n σ (pc + 1) L (.int x.toInt32 :: S)) : WW K Γ n σ pc L (.long x :: S) := by
  obtain ⟨p, l, e, R, s, m, args, below, meth, c, Q, c0, s0⟩ := Γ
  obtain ⟨hx, hb, hml, hown, hts, hK, hR, hlk, hz, hst, hU, hN⟩ := G
  intro H locs ls hl hP hD hS
  exact lv_l2i hx hb d rfl (k H locs ls hl hP hD hS)
theorem ww_i2l {x : Int32} (G : Good K Γ cc own nL fr lo) (d : decode cc pc = .ok (.i2l, 1))  (k : WW K Γ n σ (pc + 1) L (.long x.toInt64 :: S)) : WW K Γ n σ pc L (.int x :: S) := by
  obtain ⟨p, l, e, R, s, m, args, below, meth, c, Q, c0, s0⟩ := Γ
  obtain ⟨hx, hb, hml, hown, hts, hK, hR, hlk, hz, hst, hU, hN⟩ := G
  intro H locs ls hl hP hD hS
  exact lv_i2l hx hb d rfl (k H locs ls hl hP hD hS)
theorem ww_lcmp {x y : Int64} (G : Good K Γ cc own nL fr lo) (d : decode cc pc = .ok (.lcmp, 1))  (k : WW K Γ n σ (pc + 1) L (.int (lg_cmp x y) :: S)) : WW K Γ n σ pc L (.long y :: .long x :: S) := by
  obtain ⟨p, l, e, R, s, m, args, below, meth, c, Q, c0, s0⟩ := Γ
  obtain ⟨hx, hb, hml, hown, hts, hK, hR, hlk, hz, hst, hU, hN⟩ := G
  intro H locs ls hl hP hD hS
  exact W.lcmp hx hb d (k H locs ls hl hP hD hS)
theorem ww_idiv {x y : Int32} (G : Good K Γ cc own nL fr lo) (d : decode cc pc = .ok (.idiv, 1)) (hne : ¬ y = 0) (k : WW K Γ n σ (pc + 1) L (.int (x / y) :: S)) : WW K Γ n σ pc L (.int y :: .int x :: S) := by
  obtain ⟨p, l, e, R, s, m, args, below, meth, c, Q, c0, s0⟩ := Γ
  obtain ⟨hx, hb, hml, hown, hts, hK, hR, hlk, hz, hst, hU, hN⟩ := G
  intro H locs ls hl hP hD hS
  exact lv_idiv hx hb d hne (k H locs ls hl hP hD hS)
theorem ww_irem {x y : Int32} (G : Good K Γ cc own nL fr lo) (d : decode cc pc = .ok (.irem, 1)) (hne : ¬ y = 0) (k : WW K Γ n σ (pc + 1) L (.int (mm_irem x y) :: S)) : WW K Γ n σ pc L (.int y :: .int x :: S) := by
  obtain ⟨p, l, e, R, s, m, args, below, meth, c, Q, c0, s0⟩ := Γ
  obtain ⟨hx, hb, hml, hown, hts, hK, hR, hlk, hz, hst, hU, hN⟩ := G
  intro H locs ls hl hP hD hS
  exact lv_irem hx hb d hne (k H locs ls hl hP hD hS)
theorem ww_idivz {x y : Int32} {A : RR} (G : Good K Γ cc own nL fr lo) (d : decode cc pc = .ok (.idiv, 1)) (h : mm_nz y A = some fin) (k : A = some fin → WW K Γ n σ (pc + 1) L (.int (x / y) :: S)) : WW K Γ n σ pc L (.int y :: .int x :: S) := by
  by_cases hy : y = 0
  · rw [mm_nz, if_pos hy] at h; exact nomatch h
  · rw [mm_nz, if_neg hy] at h; exact ww_idiv G d hy (k h)
theorem ww_iremz {x y : Int32} {A : RR} (G : Good K Γ cc own nL fr lo) (d : decode cc pc = .ok (.irem, 1)) (h : mm_nz y A = some fin) (k : A = some fin → WW K Γ n σ (pc + 1) L (.int (mm_irem x y) :: S)) : WW K Γ n σ pc L (.int y :: .int x :: S) := by
  by_cases hy : y = 0
  · rw [mm_nz, if_pos hy] at h; exact nomatch h
  · rw [mm_nz, if_neg hy] at h; exact ww_irem G d hy (k h)
theorem ww_iconst {v : Int32} {q : Int} (G : Good K Γ cc own nL fr lo) (d : decode cc pc = .ok (.iconst q, 1)) (hv : Int32.ofInt q = v) (k : WW K Γ n σ (pc + 1) L (.int v :: S)) : WW K Γ n σ pc L (S) := by
  obtain ⟨p, l, e, R, s, m, args, below, meth, c, Q, c0, s0⟩ := Γ
  obtain ⟨hx, hb, hml, hown, hts, hK, hR, hlk, hz, hst, hU, hN⟩ := G
  intro H locs ls hl hP hD hS
  exact lv_iconst hx hb d hv (k H locs ls hl hP hD hS)
theorem ww_bipush {v : Int32} {q : Int} (G : Good K Γ cc own nL fr lo) (d : decode cc pc = .ok (.bipush q, 2)) (hv : (Int8.ofInt q).toInt32 = v) (k : WW K Γ n σ (pc + 2) L (.int v :: S)) : WW K Γ n σ pc L (S) := by
  obtain ⟨p, l, e, R, s, m, args, below, meth, c, Q, c0, s0⟩ := Γ
  obtain ⟨hx, hb, hml, hown, hts, hK, hR, hlk, hz, hst, hU, hN⟩ := G
  intro H locs ls hl hP hD hS
  exact lv_bipush hx hb d hv (k H locs ls hl hP hD hS)
theorem ww_sipush {v : Int32} {q : Int} (G : Good K Γ cc own nL fr lo) (d : decode cc pc = .ok (.sipush q, 3)) (hv : (Int16.ofInt q).toInt32 = v) (k : WW K Γ n σ (pc + 3) L (.int v :: S)) : WW K Γ n σ pc L (S) := by
  obtain ⟨p, l, e, R, s, m, args, below, meth, c, Q, c0, s0⟩ := Γ
  obtain ⟨hx, hb, hml, hown, hts, hK, hR, hlk, hz, hst, hU, hN⟩ := G
  intro H locs ls hl hP hD hS
  exact lv_sipush hx hb d hv (k H locs ls hl hP hD hS)
theorem ww_lconst {v : Int64} {q : Fin 2} (G : Good K Γ cc own nL fr lo) (d : decode cc pc = .ok (.lconst q, 1)) (hv : Int64.ofNat (q : Nat) = v) (k : WW K Γ n σ (pc + 1) L (.long v :: S)) : WW K Γ n σ pc L (S) := by
  obtain ⟨p, l, e, R, s, m, args, below, meth, c, Q, c0, s0⟩ := Γ
  obtain ⟨hx, hb, hml, hown, hts, hK, hR, hlk, hz, hst, hU, hN⟩ := G
  intro H locs ls hl hP hD hS
  exact lv_lconst hx hb d hv (k H locs ls hl hP hD hS)
theorem ww_ldc {v : Int32} {index : Nat} (G : Good K Γ cc own nL fr lo) (d : decode cc pc = .ok (.ldc index, 2)) (hw : Cond.constant own index v ∈ wAll) (k : WW K Γ n σ (pc + 2) L (.int v :: S)) : WW K Γ n σ pc L (S) := by
  obtain ⟨p, l, e, R, s, m, args, below, meth, c, Q, c0, s0⟩ := Γ
  obtain ⟨hx, hb, hml, hown, hts, hK, hR, hlk, hz, hst, hU, hN⟩ := G
  intro H locs ls hl hP hD hS
  exact lv_ldc hx hb hown (hts _ hw) d (k H locs ls hl hP hD hS)
theorem ww_ldc2 {v : Int64} {index : Nat} (G : Good K Γ cc own nL fr lo) (d : decode cc pc = .ok (.ldc2_w index, 3)) (hw : Cond.constantLong own index v ∈ wAll) (k : WW K Γ n σ (pc + 3) L (.long v :: S)) : WW K Γ n σ pc L (S) := by
  obtain ⟨p, l, e, R, s, m, args, below, meth, c, Q, c0, s0⟩ := Γ
  obtain ⟨hx, hb, hml, hown, hts, hK, hR, hlk, hz, hst, hU, hN⟩ := G
  intro H locs ls hl hP hD hS
  exact lv_ldc2 hx hb hown (hts _ hw) d (k H locs ls hl hP hD hS)
theorem ww_dup {v : Value} (G : Good K Γ cc own nL fr lo) (d : decode cc pc = .ok (.dup, 1)) (hv : v.category = 1) (k : WW K Γ n σ (pc + 1) L (v :: v :: S)) : WW K Γ n σ pc L (v :: S) := by
  obtain ⟨p, l, e, R, s, m, args, below, meth, c, Q, c0, s0⟩ := Γ
  obtain ⟨hx, hb, hml, hown, hts, hK, hR, hlk, hz, hst, hU, hN⟩ := G
  intro H locs ls hl hP hD hS
  exact lv_dup hx hb d hv (k H locs ls hl hP hD hS)
theorem ww_pop {v : Value} (G : Good K Γ cc own nL fr lo) (d : decode cc pc = .ok (.pop, 1)) (hv : v.category = 1) (k : WW K Γ n σ (pc + 1) L (S)) : WW K Γ n σ pc L (v :: S) := by
  obtain ⟨p, l, e, R, s, m, args, below, meth, c, Q, c0, s0⟩ := Γ
  obtain ⟨hx, hb, hml, hown, hts, hK, hR, hlk, hz, hst, hU, hN⟩ := G
  intro H locs ls hl hP hD hS
  exact lv_pop hx hb d hv (k H locs ls hl hP hD hS)
theorem ww_dup2 {v w : Value} (G : Good K Γ cc own nL fr lo) (d : decode cc pc = .ok (.dup2, 1)) (hv : v.category = 1) (hw : w.category = 1) (k : WW K Γ n σ (pc + 1) L (v :: w :: v :: w :: S)) : WW K Γ n σ pc L (v :: w :: S) := by
  obtain ⟨p, l, e, R, s, m, args, below, meth, c, Q, c0, s0⟩ := Γ
  obtain ⟨hx, hb, hml, hown, hts, hK, hR, hlk, hz, hst, hU, hN⟩ := G
  intro H locs ls hl hP hD hS
  exact lv_dup2_11 hx hb d hv hw (k H locs ls hl hP hD hS)
theorem ww_iload_n (q : Nat) {i : Nat} {k4 : Fin 4} {x : Int32} (G : Good K Γ cc own nL fr lo) (d : decode cc pc = .ok (.iload_n k4, 1)) (hi : (k4 : Nat) = i) (hq : L[q]? = some (i, .int x)) (k : WW K Γ n σ (pc + 1) L (.int x :: S)) : WW K Γ n σ pc L S := by
  obtain ⟨p, l, e, R, s, m, args, below, meth, c, Q, c0, s0⟩ := Γ
  obtain ⟨hx, hb, hml, hown, hts, hK, hR, hlk, hz, hst, hU, hN⟩ := G
  intro H locs ls hl hP hD hS
  exact lv_iload_n hx hb d hi (lv_at hl q hq) (k H locs ls hl hP hD hS)
theorem ww_iload (q : Nat) {i : Nat} {x : Int32} (G : Good K Γ cc own nL fr lo) (d : decode cc pc = .ok (.iload i, 2)) (hq : L[q]? = some (i, .int x)) (k : WW K Γ n σ (pc + 2) L (.int x :: S)) : WW K Γ n σ pc L S := by
  obtain ⟨p, l, e, R, s, m, args, below, meth, c, Q, c0, s0⟩ := Γ
  obtain ⟨hx, hb, hml, hown, hts, hK, hR, hlk, hz, hst, hU, hN⟩ := G
  intro H locs ls hl hP hD hS
  exact lv_iload hx hb d (lv_at hl q hq) (k H locs ls hl hP hD hS)
theorem ww_istore_n {L' : List (Nat × Value)} {i : Nat} {k4 : Fin 4} {x : Int32} (G : Good K Γ cc own nL fr lo) (d : decode cc pc = .ok (.istore_n k4, 1)) (hi : (k4 : Nat) = i) (hn : i < nL) (hq : (i, Value.int x) :: L.filter (fun q => !(q.1 == i) && !(q.1 + 1 == i && q.2.category == 2)) = L') (k : WW K Γ n σ (pc + 1) L' S) : WW K Γ n σ pc L (.int x :: S) := by
  obtain ⟨p, l, e, R, s, m, args, below, meth, c, Q, c0, s0⟩ := Γ
  obtain ⟨hx, hb, hml, hown, hts, hK, hR, hlk, hz, hst, hU, hN⟩ := G
  intro H locs ls hl hP hD hS
  exact lv_istore_n hx hb d hi hl (hml ▸ hn) hq (fun ls' hl' => k H locs ls' hl' hP hD hS)
theorem ww_istore {L' : List (Nat × Value)} {i : Nat} {x : Int32} (G : Good K Γ cc own nL fr lo) (d : decode cc pc = .ok (.istore i, 2)) (hn : i < nL) (hq : (i, Value.int x) :: L.filter (fun q => !(q.1 == i) && !(q.1 + 1 == i && q.2.category == 2)) = L') (k : WW K Γ n σ (pc + 2) L' S) : WW K Γ n σ pc L (.int x :: S) := by
  obtain ⟨p, l, e, R, s, m, args, below, meth, c, Q, c0, s0⟩ := Γ
  obtain ⟨hx, hb, hml, hown, hts, hK, hR, hlk, hz, hst, hU, hN⟩ := G
  intro H locs ls hl hP hD hS
  exact lv_istore hx hb d hl (hml ▸ hn) hq (fun ls' hl' => k H locs ls' hl' hP hD hS)
theorem ww_aload_n (q : Nat) {i : Nat} {k4 : Fin 4} {x : Nat} (G : Good K Γ cc own nL fr lo) (d : decode cc pc = .ok (.aload_n k4, 1)) (hi : (k4 : Nat) = i) (hq : L[q]? = some (i, .ref x)) (k : WW K Γ n σ (pc + 1) L (.ref x :: S)) : WW K Γ n σ pc L S := by
  obtain ⟨p, l, e, R, s, m, args, below, meth, c, Q, c0, s0⟩ := Γ
  obtain ⟨hx, hb, hml, hown, hts, hK, hR, hlk, hz, hst, hU, hN⟩ := G
  intro H locs ls hl hP hD hS
  exact lv_aload_n hx hb d hi (lv_at hl q hq) (k H locs ls hl hP hD hS)
theorem ww_aload (q : Nat) {i : Nat} {x : Nat} (G : Good K Γ cc own nL fr lo) (d : decode cc pc = .ok (.aload i, 2)) (hq : L[q]? = some (i, .ref x)) (k : WW K Γ n σ (pc + 2) L (.ref x :: S)) : WW K Γ n σ pc L S := by
  obtain ⟨p, l, e, R, s, m, args, below, meth, c, Q, c0, s0⟩ := Γ
  obtain ⟨hx, hb, hml, hown, hts, hK, hR, hlk, hz, hst, hU, hN⟩ := G
  intro H locs ls hl hP hD hS
  exact lv_aload hx hb d (lv_at hl q hq) (k H locs ls hl hP hD hS)
theorem ww_astore_n {L' : List (Nat × Value)} {i : Nat} {k4 : Fin 4} {x : Nat} (G : Good K Γ cc own nL fr lo) (d : decode cc pc = .ok (.astore_n k4, 1)) (hi : (k4 : Nat) = i) (hn : i < nL) (hq : (i, Value.ref x) :: L.filter (fun q => !(q.1 == i) && !(q.1 + 1 == i && q.2.category == 2)) = L') (k : WW K Γ n σ (pc + 1) L' S) : WW K Γ n σ pc L (.ref x :: S) := by
  obtain ⟨p, l, e, R, s, m, args, below, meth, c, Q, c0, s0⟩ := Γ
  obtain ⟨hx, hb, hml, hown, hts, hK, hR, hlk, hz, hst, hU, hN⟩ := G
  intro H locs ls hl hP hD hS
  exact lv_astore_n hx hb d hi hl (hml ▸ hn) hq (fun ls' hl' => k H locs ls' hl' hP hD hS)
theorem ww_astore {L' : List (Nat × Value)} {i : Nat} {x : Nat} (G : Good K Γ cc own nL fr lo) (d : decode cc pc = .ok (.astore i, 2)) (hn : i < nL) (hq : (i, Value.ref x) :: L.filter (fun q => !(q.1 == i) && !(q.1 + 1 == i && q.2.category == 2)) = L') (k : WW K Γ n σ (pc + 2) L' S) : WW K Γ n σ pc L (.ref x :: S) := by
  obtain ⟨p, l, e, R, s, m, args, below, meth, c, Q, c0, s0⟩ := Γ
  obtain ⟨hx, hb, hml, hown, hts, hK, hR, hlk, hz, hst, hU, hN⟩ := G
  intro H locs ls hl hP hD hS
  exact lv_astore hx hb d hl (hml ▸ hn) hq (fun ls' hl' => k H locs ls' hl' hP hD hS)
theorem ww_lload_n (q : Nat) {i : Nat} {k4 : Fin 4} {x : Int64} (G : Good K Γ cc own nL fr lo) (d : decode cc pc = .ok (.lload_n k4, 1)) (hi : (k4 : Nat) = i) (hq : L[q]? = some (i, .long x)) (k : WW K Γ n σ (pc + 1) L (.long x :: S)) : WW K Γ n σ pc L S := by
  obtain ⟨p, l, e, R, s, m, args, below, meth, c, Q, c0, s0⟩ := Γ
  obtain ⟨hx, hb, hml, hown, hts, hK, hR, hlk, hz, hst, hU, hN⟩ := G
  intro H locs ls hl hP hD hS
  exact lv_lload_n hx hb d hi (lv_at hl q hq) (k H locs ls hl hP hD hS)
theorem ww_lload (q : Nat) {i : Nat} {x : Int64} (G : Good K Γ cc own nL fr lo) (d : decode cc pc = .ok (.lload i, 2)) (hq : L[q]? = some (i, .long x)) (k : WW K Γ n σ (pc + 2) L (.long x :: S)) : WW K Γ n σ pc L S := by
  obtain ⟨p, l, e, R, s, m, args, below, meth, c, Q, c0, s0⟩ := Γ
  obtain ⟨hx, hb, hml, hown, hts, hK, hR, hlk, hz, hst, hU, hN⟩ := G
  intro H locs ls hl hP hD hS
  exact lv_lload hx hb d (lv_at hl q hq) (k H locs ls hl hP hD hS)
theorem ww_iinc (q : Nat) {L' : List (Nat × Value)} {i : Nat} {z : Int} {x w : Int32} (G : Good K Γ cc own nL fr lo) (d : decode cc pc = .ok (.iinc i z, 3)) (hq : L[q]? = some (i, .int x)) (hw : Int32.ofInt z = w) (hn : i < nL) (hf : (i, Value.int (x + w)) :: L.filter (fun q => !(q.1 == i) && !(q.1 + 1 == i && q.2.category == 2)) = L') (k : WW K Γ n σ (pc + 3) L' S) : WW K Γ n σ pc L S := by
  obtain ⟨p, l, e, R, s, m, args, below, meth, c, Q, c0, s0⟩ := Γ
  obtain ⟨hx, hb, hml, hown, hts, hK, hR, hlk, hz, hst, hU, hN⟩ := G
  intro H locs ls hl hP hD hS
  exact lv_iinc hx hb d hl hq (by rw [hw]) (hml ▸ hn) hf (fun ls' hl' => k H locs ls' hl' hP hD hS)
theorem ww_iincW (q : Nat) {L' : List (Nat × Value)} {i : Nat} {z : Int} {x w : Int32} (G : Good K Γ cc own nL fr lo) (d : decode cc pc = .ok (.iinc i z, 6)) (hq : L[q]? = some (i, .int x)) (hw : Int32.ofInt z = w) (hn : i < nL) (hf : (i, Value.int (x + w)) :: L.filter (fun q => !(q.1 == i) && !(q.1 + 1 == i && q.2.category == 2)) = L') (k : WW K Γ n σ (pc + 6) L' S) : WW K Γ n σ pc L S := by
  obtain ⟨p, l, e, R, s, m, args, below, meth, c, Q, c0, s0⟩ := Γ
  obtain ⟨hx, hb, hml, hown, hts, hK, hR, hlk, hz, hst, hU, hN⟩ := G
  intro H locs ls hl hP hD hS
  exact lv_iincW hx hb d hl hq (by rw [hw]) (hml ▸ hn) hf (fun ls' hl' => k H locs ls' hl' hP hD hS)
theorem ww_sub {L' : List (Nat × Value)} (ks : List Nat) (hl' : lv_pick L ks = L') (k : WW K Γ n σ pc L' S) : WW K Γ n σ pc L S := by
  obtain ⟨p, l, e, R, s, m, args, below, meth, c, Q, c0, s0⟩ := Γ
  intro H locs ls hl hP hD hS
  exact k H locs ls (lv_sub hl ks hl') hP hD hS
theorem ww_goto {off : Int} {tgt : Nat} (G : Good K Γ cc own nL fr lo) (d : decode cc pc = .ok (.goto off, 3)) (ht : (pc : Int) + off = (tgt : Int)) (k : WW K Γ n σ tgt L S) : WW K Γ n σ pc L S := by
  obtain ⟨p, l, e, R, s, m, args, below, meth, c, Q, c0, s0⟩ := Γ
  obtain ⟨hx, hb, hml, hown, hts, hK, hR, hlk, hz, hst, hU, hN⟩ := G
  intro H locs ls hl hP hD hS
  exact lv_goto hx hb d ht (k H locs ls hl hP hD hS)
theorem ww_icmpeq {x y : Int32} {off : Int} {tgt : Nat} {A B : RR} (G : Good K Γ cc own nL fr lo) (d : decode cc pc = .ok (.if_icmp .eq off, 3)) (ht : (pc : Int) + off = (tgt : Int)) (h : (if x = y then A else B) = some fin) (kt : A = some fin → WW K Γ n σ tgt L S) (kf : B = some fin → WW K Γ n σ (pc + 3) L S) : WW K Γ n σ pc L (.int y :: .int x :: S) := by
  obtain ⟨p, l, e, R, s, m, args, below, meth, c, Q, c0, s0⟩ := Γ
  obtain ⟨hx, hb, hml, hown, hts, hK, hR, hlk, hz, hst, hU, hN⟩ := G
  intro H locs ls hl hP hD hS
  exact lv_icmp_eq hx hb d ht (fun hc => kt (by rw [if_pos hc] at h; exact h) H locs ls hl hP hD hS) (fun hc => kf (by rw [if_neg hc] at h; exact h) H locs ls hl hP hD hS)
theorem ww_icmpne {x y : Int32} {off : Int} {tgt : Nat} {A B : RR} (G : Good K Γ cc own nL fr lo) (d : decode cc pc = .ok (.if_icmp .ne off, 3)) (ht : (pc : Int) + off = (tgt : Int)) (h : (if ¬ x = y then A else B) = some fin) (kt : A = some fin → WW K Γ n σ tgt L S) (kf : B = some fin → WW K Γ n σ (pc + 3) L S) : WW K Γ n σ pc L (.int y :: .int x :: S) := by
  obtain ⟨p, l, e, R, s, m, args, below, meth, c, Q, c0, s0⟩ := Γ
  obtain ⟨hx, hb, hml, hown, hts, hK, hR, hlk, hz, hst, hU, hN⟩ := G
  intro H locs ls hl hP hD hS
  exact lv_icmp_ne hx hb d ht (fun hc => kt (by rw [if_pos hc] at h; exact h) H locs ls hl hP hD hS) (fun hc => kf (by rw [if_neg (fun z => z hc)] at h; exact h) H locs ls hl hP hD hS)
theorem ww_icmplt {x y : Int32} {off : Int} {tgt : Nat} {A B : RR} (G : Good K Γ cc own nL fr lo) (d : decode cc pc = .ok (.if_icmp .lt off, 3)) (ht : (pc : Int) + off = (tgt : Int)) (h : (if x < y then A else B) = some fin) (kt : A = some fin → WW K Γ n σ tgt L S) (kf : B = some fin → WW K Γ n σ (pc + 3) L S) : WW K Γ n σ pc L (.int y :: .int x :: S) := by
  obtain ⟨p, l, e, R, s, m, args, below, meth, c, Q, c0, s0⟩ := Γ
  obtain ⟨hx, hb, hml, hown, hts, hK, hR, hlk, hz, hst, hU, hN⟩ := G
  intro H locs ls hl hP hD hS
  exact lv_icmp_lt hx hb d ht (fun hc => kt (by rw [if_pos hc] at h; exact h) H locs ls hl hP hD hS) (fun hc => kf (by rw [if_neg hc] at h; exact h) H locs ls hl hP hD hS)
theorem ww_icmpge {x y : Int32} {off : Int} {tgt : Nat} {A B : RR} (G : Good K Γ cc own nL fr lo) (d : decode cc pc = .ok (.if_icmp .ge off, 3)) (ht : (pc : Int) + off = (tgt : Int)) (h : (if y ≤ x then A else B) = some fin) (kt : A = some fin → WW K Γ n σ tgt L S) (kf : B = some fin → WW K Γ n σ (pc + 3) L S) : WW K Γ n σ pc L (.int y :: .int x :: S) := by
  obtain ⟨p, l, e, R, s, m, args, below, meth, c, Q, c0, s0⟩ := Γ
  obtain ⟨hx, hb, hml, hown, hts, hK, hR, hlk, hz, hst, hU, hN⟩ := G
  intro H locs ls hl hP hD hS
  exact lv_icmp_ge hx hb d ht (fun hc => kt (by rw [if_pos hc] at h; exact h) H locs ls hl hP hD hS) (fun hc => kf (by rw [if_neg hc] at h; exact h) H locs ls hl hP hD hS)
theorem ww_icmpgt {x y : Int32} {off : Int} {tgt : Nat} {A B : RR} (G : Good K Γ cc own nL fr lo) (d : decode cc pc = .ok (.if_icmp .gt off, 3)) (ht : (pc : Int) + off = (tgt : Int)) (h : (if y < x then A else B) = some fin) (kt : A = some fin → WW K Γ n σ tgt L S) (kf : B = some fin → WW K Γ n σ (pc + 3) L S) : WW K Γ n σ pc L (.int y :: .int x :: S) := by
  obtain ⟨p, l, e, R, s, m, args, below, meth, c, Q, c0, s0⟩ := Γ
  obtain ⟨hx, hb, hml, hown, hts, hK, hR, hlk, hz, hst, hU, hN⟩ := G
  intro H locs ls hl hP hD hS
  exact lv_icmp_gt hx hb d ht (fun hc => kt (by rw [if_pos hc] at h; exact h) H locs ls hl hP hD hS) (fun hc => kf (by rw [if_neg hc] at h; exact h) H locs ls hl hP hD hS)
theorem ww_icmple {x y : Int32} {off : Int} {tgt : Nat} {A B : RR} (G : Good K Γ cc own nL fr lo) (d : decode cc pc = .ok (.if_icmp .le off, 3)) (ht : (pc : Int) + off = (tgt : Int)) (h : (if x ≤ y then A else B) = some fin) (kt : A = some fin → WW K Γ n σ tgt L S) (kf : B = some fin → WW K Γ n σ (pc + 3) L S) : WW K Γ n σ pc L (.int y :: .int x :: S) := by
  obtain ⟨p, l, e, R, s, m, args, below, meth, c, Q, c0, s0⟩ := Γ
  obtain ⟨hx, hb, hml, hown, hts, hK, hR, hlk, hz, hst, hU, hN⟩ := G
  intro H locs ls hl hP hD hS
  exact lv_icmp_le hx hb d ht (fun hc => kt (by rw [if_pos hc] at h; exact h) H locs ls hl hP hD hS) (fun hc => kf (by rw [if_neg hc] at h; exact h) H locs ls hl hP hD hS)
theorem ww_ifeq {x : Int32} {off : Int} {tgt : Nat} {A B : RR} (G : Good K Γ cc own nL fr lo) (d : decode cc pc = .ok (.ifCond .eq off, 3)) (ht : (pc : Int) + off = (tgt : Int)) (h : (if x = 0 then A else B) = some fin) (kt : A = some fin → WW K Γ n σ tgt L S) (kf : B = some fin → WW K Γ n σ (pc + 3) L S) : WW K Γ n σ pc L (.int x :: S) := by
  obtain ⟨p, l, e, R, s, m, args, below, meth, c, Q, c0, s0⟩ := Γ
  obtain ⟨hx, hb, hml, hown, hts, hK, hR, hlk, hz, hst, hU, hN⟩ := G
  intro H locs ls hl hP hD hS
  exact lv_if_eq hx hb d ht (fun hc => kt (by rw [if_pos hc] at h; exact h) H locs ls hl hP hD hS) (fun hc => kf (by rw [if_neg hc] at h; exact h) H locs ls hl hP hD hS)
theorem ww_ifne {x : Int32} {off : Int} {tgt : Nat} {A B : RR} (G : Good K Γ cc own nL fr lo) (d : decode cc pc = .ok (.ifCond .ne off, 3)) (ht : (pc : Int) + off = (tgt : Int)) (h : (if ¬ x = 0 then A else B) = some fin) (kt : A = some fin → WW K Γ n σ tgt L S) (kf : B = some fin → WW K Γ n σ (pc + 3) L S) : WW K Γ n σ pc L (.int x :: S) := by
  obtain ⟨p, l, e, R, s, m, args, below, meth, c, Q, c0, s0⟩ := Γ
  obtain ⟨hx, hb, hml, hown, hts, hK, hR, hlk, hz, hst, hU, hN⟩ := G
  intro H locs ls hl hP hD hS
  exact lv_if_ne hx hb d ht (fun hc => kt (by rw [if_pos hc] at h; exact h) H locs ls hl hP hD hS) (fun hc => kf (by rw [if_neg (fun z => z hc)] at h; exact h) H locs ls hl hP hD hS)
theorem ww_iflt {x : Int32} {off : Int} {tgt : Nat} {A B : RR} (G : Good K Γ cc own nL fr lo) (d : decode cc pc = .ok (.ifCond .lt off, 3)) (ht : (pc : Int) + off = (tgt : Int)) (h : (if x < 0 then A else B) = some fin) (kt : A = some fin → WW K Γ n σ tgt L S) (kf : B = some fin → WW K Γ n σ (pc + 3) L S) : WW K Γ n σ pc L (.int x :: S) := by
  obtain ⟨p, l, e, R, s, m, args, below, meth, c, Q, c0, s0⟩ := Γ
  obtain ⟨hx, hb, hml, hown, hts, hK, hR, hlk, hz, hst, hU, hN⟩ := G
  intro H locs ls hl hP hD hS
  exact lv_if_lt hx hb d ht (fun hc => kt (by rw [if_pos hc] at h; exact h) H locs ls hl hP hD hS) (fun hc => kf (by rw [if_neg hc] at h; exact h) H locs ls hl hP hD hS)
theorem ww_ifge {x : Int32} {off : Int} {tgt : Nat} {A B : RR} (G : Good K Γ cc own nL fr lo) (d : decode cc pc = .ok (.ifCond .ge off, 3)) (ht : (pc : Int) + off = (tgt : Int)) (h : (if 0 ≤ x then A else B) = some fin) (kt : A = some fin → WW K Γ n σ tgt L S) (kf : B = some fin → WW K Γ n σ (pc + 3) L S) : WW K Γ n σ pc L (.int x :: S) := by
  obtain ⟨p, l, e, R, s, m, args, below, meth, c, Q, c0, s0⟩ := Γ
  obtain ⟨hx, hb, hml, hown, hts, hK, hR, hlk, hz, hst, hU, hN⟩ := G
  intro H locs ls hl hP hD hS
  exact lv_if_ge hx hb d ht (fun hc => kt (by rw [if_pos hc] at h; exact h) H locs ls hl hP hD hS) (fun hc => kf (by rw [if_neg hc] at h; exact h) H locs ls hl hP hD hS)
theorem ww_ifgt {x : Int32} {off : Int} {tgt : Nat} {A B : RR} (G : Good K Γ cc own nL fr lo) (d : decode cc pc = .ok (.ifCond .gt off, 3)) (ht : (pc : Int) + off = (tgt : Int)) (h : (if 0 < x then A else B) = some fin) (kt : A = some fin → WW K Γ n σ tgt L S) (kf : B = some fin → WW K Γ n σ (pc + 3) L S) : WW K Γ n σ pc L (.int x :: S) := by
  obtain ⟨p, l, e, R, s, m, args, below, meth, c, Q, c0, s0⟩ := Γ
  obtain ⟨hx, hb, hml, hown, hts, hK, hR, hlk, hz, hst, hU, hN⟩ := G
  intro H locs ls hl hP hD hS
  exact lv_if_gt hx hb d ht (fun hc => kt (by rw [if_pos hc] at h; exact h) H locs ls hl hP hD hS) (fun hc => kf (by rw [if_neg hc] at h; exact h) H locs ls hl hP hD hS)
theorem ww_ifle {x : Int32} {off : Int} {tgt : Nat} {A B : RR} (G : Good K Γ cc own nL fr lo) (d : decode cc pc = .ok (.ifCond .le off, 3)) (ht : (pc : Int) + off = (tgt : Int)) (h : (if x ≤ 0 then A else B) = some fin) (kt : A = some fin → WW K Γ n σ tgt L S) (kf : B = some fin → WW K Γ n σ (pc + 3) L S) : WW K Γ n σ pc L (.int x :: S) := by
  obtain ⟨p, l, e, R, s, m, args, below, meth, c, Q, c0, s0⟩ := Γ
  obtain ⟨hx, hb, hml, hown, hts, hK, hR, hlk, hz, hst, hU, hN⟩ := G
  intro H locs ls hl hP hD hS
  exact lv_if_le hx hb d ht (fun hc => kt (by rw [if_pos hc] at h; exact h) H locs ls hl hP hD hS) (fun hc => kf (by rw [if_neg hc] at h; exact h) H locs ls hl hP hD hS)
theorem ww_jn {α : Type} {Rr : α → Mem → RR} {B : (α → Mem → RR) → RR} {goal : Prop} (h : mm_jn Rr B = some fin) (P : α → Mem → Prop) (J : ∀ x s, Rr x s = some fin → P x s) (k : ∀ r : α → Mem → RR, (∀ x s, r x s = some fin → P x s) → B r = some fin → goal) : goal := k Rr J h
theorem ww_tab {x w : Int32} {A B : RR} {goal : Prop} (h : (if x = w then A else B) = some fin) (kt : x = w → A = some fin → goal) (kf : ¬ x = w → B = some fin → goal) : goal := by
  by_cases hc : x = w
  · rw [if_pos hc] at h; exact kt hc h
  · rw [if_neg hc] at h; exact kf hc h
theorem ww_tabIn {dflt lo9 hi : Int} {offs : Array Int} {len : Nat} {x w : Int32} {off : Int} {tgt : Nat} (G : Good K Γ cc own nL fr lo) (d : decode cc pc = .ok (.tableswitch dflt lo9 hi offs, len)) (hw : x = w) (h1 : ¬ w.toInt < lo9) (h2 : ¬ hi < w.toInt) (ho : offs[(w.toInt - lo9).toNat]? = some off) (ht : (pc : Int) + off = (tgt : Int)) (k : WW K Γ n σ tgt L S) : WW K Γ n σ pc L (.int x :: S) := by
  subst hw
  obtain ⟨p, l, e, R, s, m, args, below, meth, c, Q, c0, s0⟩ := Γ
  obtain ⟨hx, hb, hml, hown, hts, hK, hR, hlk, hz, hst, hU, hN⟩ := G
  intro H locs ls hl hP hD hS
  exact lv_tableIn hx hb d h1 h2 ho ht (k H locs ls hl hP hD hS)
theorem ww_tabOut {dflt lo9 hi : Int} {offs : Array Int} {len : Nat} {x : Int32} {tgt : Nat} (G : Good K Γ cc own nL fr lo) (d : decode cc pc = .ok (.tableswitch dflt lo9 hi offs, len)) (h1 : x.toInt < lo9 ∨ hi < x.toInt) (ht : (pc : Int) + dflt = (tgt : Int)) (k : WW K Γ n σ tgt L S) : WW K Γ n σ pc L (.int x :: S) := by
  obtain ⟨p, l, e, R, s, m, args, below, meth, c, Q, c0, s0⟩ := Γ
  obtain ⟨hx, hb, hml, hown, hts, hK, hR, hlk, hz, hst, hU, hN⟩ := G
  intro H locs ls hl hP hD hS
  exact lv_tableOut hx hb d h1 ht (k H locs ls hl hP hD hS)
theorem tab_out3 {x : Int32} (h0 : ¬ x = (0 : Int32)) (h1 : ¬ x = (1 : Int32)) (h2 : ¬ x = (2 : Int32)) : x.toInt < 0 ∨ 2 < x.toInt := by
  have q0 : x.toInt ≠ 0 := fun z => h0 (Int32.toInt_inj.mp (by rw [z]; decide))
  have q1 : x.toInt ≠ 1 := fun z => h1 (Int32.toInt_inj.mp (by rw [z]; decide))
  have q2 : x.toInt ≠ 2 := fun z => h2 (Int32.toInt_inj.mp (by rw [z]; decide))
  omega
theorem tab_out20 {x : Int32} (h0 : ¬ x = (0 : Int32)) (h1 : ¬ x = (1 : Int32)) (h2 : ¬ x = (2 : Int32)) (h3 : ¬ x = (3 : Int32)) (h4 : ¬ x = (4 : Int32)) (h5 : ¬ x = (5 : Int32)) (h6 : ¬ x = (6 : Int32)) (h7 : ¬ x = (7 : Int32)) (h8 : ¬ x = (8 : Int32)) (h9 : ¬ x = (9 : Int32)) (h10 : ¬ x = (10 : Int32)) (h11 : ¬ x = (11 : Int32)) (h12 : ¬ x = (12 : Int32)) (h13 : ¬ x = (13 : Int32)) (h14 : ¬ x = (14 : Int32)) (h15 : ¬ x = (15 : Int32)) (h16 : ¬ x = (16 : Int32)) (h17 : ¬ x = (17 : Int32)) (h18 : ¬ x = (18 : Int32)) (h19 : ¬ x = (19 : Int32)) : x.toInt < 0 ∨ 19 < x.toInt := by
  have q0 : x.toInt ≠ 0 := fun z => h0 (Int32.toInt_inj.mp (by rw [z]; decide))
  have q1 : x.toInt ≠ 1 := fun z => h1 (Int32.toInt_inj.mp (by rw [z]; decide))
  have q2 : x.toInt ≠ 2 := fun z => h2 (Int32.toInt_inj.mp (by rw [z]; decide))
  have q3 : x.toInt ≠ 3 := fun z => h3 (Int32.toInt_inj.mp (by rw [z]; decide))
  have q4 : x.toInt ≠ 4 := fun z => h4 (Int32.toInt_inj.mp (by rw [z]; decide))
  have q5 : x.toInt ≠ 5 := fun z => h5 (Int32.toInt_inj.mp (by rw [z]; decide))
  have q6 : x.toInt ≠ 6 := fun z => h6 (Int32.toInt_inj.mp (by rw [z]; decide))
  have q7 : x.toInt ≠ 7 := fun z => h7 (Int32.toInt_inj.mp (by rw [z]; decide))
  have q8 : x.toInt ≠ 8 := fun z => h8 (Int32.toInt_inj.mp (by rw [z]; decide))
  have q9 : x.toInt ≠ 9 := fun z => h9 (Int32.toInt_inj.mp (by rw [z]; decide))
  have q10 : x.toInt ≠ 10 := fun z => h10 (Int32.toInt_inj.mp (by rw [z]; decide))
  have q11 : x.toInt ≠ 11 := fun z => h11 (Int32.toInt_inj.mp (by rw [z]; decide))
  have q12 : x.toInt ≠ 12 := fun z => h12 (Int32.toInt_inj.mp (by rw [z]; decide))
  have q13 : x.toInt ≠ 13 := fun z => h13 (Int32.toInt_inj.mp (by rw [z]; decide))
  have q14 : x.toInt ≠ 14 := fun z => h14 (Int32.toInt_inj.mp (by rw [z]; decide))
  have q15 : x.toInt ≠ 15 := fun z => h15 (Int32.toInt_inj.mp (by rw [z]; decide))
  have q16 : x.toInt ≠ 16 := fun z => h16 (Int32.toInt_inj.mp (by rw [z]; decide))
  have q17 : x.toInt ≠ 17 := fun z => h17 (Int32.toInt_inj.mp (by rw [z]; decide))
  have q18 : x.toInt ≠ 18 := fun z => h18 (Int32.toInt_inj.mp (by rw [z]; decide))
  have q19 : x.toInt ≠ 19 := fun z => h19 (Int32.toInt_inj.mp (by rw [z]; decide))
  omega
end VRows
end
section
section VMem
variable {K : KK} {Γ : Cx} {cc : ByteArray} {own : String} {nL fr lo n : Nat} {σ : Mem} {pc : Nat} {L : List (Nat × Value)} {S : List Value} {fin : Oc × Mem}
theorem FL_at {F i : Nat} (hF : F < 72) (hi : i < cnt F) : (FL K σ)[tb_pos F i]? = some (aa K F i, ct K σ F i) := by
  unfold FL
  rw [List.getElem?_map, tb_at F hF i hi]
  rfl
theorem FL_set {σ' : Mem} {F i : Nat} {e : va_E} (hF : F < 72) (hi : i < cnt F) (ho : ∀ F' i', ¬ (F' = F ∧ i' = i) → ct K σ' F' i' = ct K σ F' i') (hs : ct K σ' F i = e) :
    (FL K σ).set (tb_pos F i) (aa K F i, e) = FL K σ' := by
  have hat := tb_at F hF i hi
  have hlt : tb_pos F i < tb_all.length := (List.getElem?_eq_some_iff.mp hat).1
  apply List.ext_getElem?
  intro j
  unfold FL
  rw [List.getElem?_set, List.getElem?_map, List.length_map]
  by_cases hj : tb_pos F i = j
  · subst hj
    rw [if_pos rfl, if_pos hlt, List.getElem?_map, hat]
    show _ = some (aa K F i, ct K σ' F i)
    rw [hs]
  · rw [if_neg hj, List.getElem?_map]
    cases hc : tb_all[j]? with
    | none => rfl
    | some q =>
      show some (aa K q.1 q.2, ct K σ q.1 q.2) = some (aa K q.1 q.2, ct K σ' q.1 q.2)
      rw [ho q.1 q.2 (fun hh => hj (by
        have := tb_inv j q hc
        rw [hh.1, hh.2] at this
        exact this))]
theorem ct_upI (σ : Mem) (F i k : Nat) (v : Int32) : ∀ F' i', ¬ (F' = F ∧ i' = i) → ct K (mm_wI σ F i k v) F' i' = ct K σ F' i' := by
  intro F' i' h
  have : (mm_wI σ F i k v).1 F' i' = σ.1 F' i' := by
    funext k'
    show (if F' = F ∧ i' = i ∧ k' = k then v else σ.1 F' i' k') = _
    exact if_neg (fun q => h ⟨q.1, q.2.1⟩)
  show ctR K F' i' ((mm_wI σ F i k v).1 F' i') (σ.2 F' i') = ctR K F' i' (σ.1 F' i') (σ.2 F' i')
  rw [this]
theorem ct_upI' (σ : Mem) (F i k : Nat) (v : Int32) : ct K (mm_wI σ F i k v) F i = ctR K F i (upd (σ.1 F i) k v) (σ.2 F i) := by
  have : (mm_wI σ F i k v).1 F i = upd (σ.1 F i) k v := by
    funext k'
    show (if F = F ∧ i = i ∧ k' = k then v else σ.1 F i k') = if k' = k then v else σ.1 F i k'
    by_cases hk : k' = k
    · rw [if_pos ⟨rfl, rfl, hk⟩, if_pos hk]
    · rw [if_neg (fun q => hk q.2.2), if_neg hk]
  show ctR K F i ((mm_wI σ F i k v).1 F i) (σ.2 F i) = _
  rw [this]
theorem ct_upJ (σ : Mem) (F i k : Nat) (v : Int64) : ∀ F' i', ¬ (F' = F ∧ i' = i) → ct K (mm_wJ σ F i k v) F' i' = ct K σ F' i' := by
  intro F' i' h
  have : (mm_wJ σ F i k v).2 F' i' = σ.2 F' i' := by
    funext k'
    show (if F' = F ∧ i' = i ∧ k' = k then v else σ.2 F' i' k') = _
    exact if_neg (fun q => h ⟨q.1, q.2.1⟩)
  show ctR K F' i' (σ.1 F' i') ((mm_wJ σ F i k v).2 F' i') = ctR K F' i' (σ.1 F' i') (σ.2 F' i')
  rw [this]
theorem ct_upJ' (σ : Mem) (F i k : Nat) (v : Int64) : ct K (mm_wJ σ F i k v) F i = ctR K F i (σ.1 F i) (vp_updL (σ.2 F i) k v) := by
  have : (mm_wJ σ F i k v).2 F i = vp_updL (σ.2 F i) k v := by
    funext k'
    show (if F = F ∧ i = i ∧ k' = k then v else σ.2 F i k') = if k' = k then v else σ.2 F i k'
    by_cases hk : k' = k
    · rw [if_pos ⟨rfl, rfl, hk⟩, if_pos hk]
    · rw [if_neg (fun q => hk q.2.2), if_neg hk]
  show ctR K F i (σ.1 F i) ((mm_wJ σ F i k v).2 F i) = _
  rw [this]
-- arrays
theorem ww_iaload {F i N : Nat} {x : Int32} {k : Int32 → RR} (G : Good K Γ cc own nL fr lo) (ar : ArI F N) (hi : i < cnt F) (d : decode cc pc = .ok (.iaload, 1)) (h : mm_ld σ F i N x k = some fin) (kk : ∀ v, k v = some fin → WW K Γ n σ (pc + 1) L (.int v :: S)) : WW K Γ n σ pc L (.int x :: .ref (aa K F i) :: S) := by
  by_cases hin : x < 0 ∨ N ≤ x.toNatClampNeg
  · rw [mm_ld, if_pos hin] at h; exact nomatch h
  rw [mm_ld, if_neg hin] at h
  have k := kk _ h
  obtain ⟨p, l, e, R, s, m, args, below, meth, c, Q, c0, s0⟩ := Γ
  obtain ⟨hx, hb, hml, hown, hts, hK, hR, hlk, hz, hst, hU, hN⟩ := G
  intro H locs ls hl hP hD hS
  exact va_iald hx hb hK hP (tb_pos F i) 0 ((FL_at ar.1 hi).trans (by show some (_, ctR K F i (σ.1 F i) (σ.2 F i)) = _; rw [ar.2])) rfl hin d (k H locs ls hl hP hD hS)
theorem ww_baload {F i N : Nat} {x : Int32} {k : Int32 → RR} (G : Good K Γ cc own nL fr lo) (ar : ArZ F N) (hi : i < cnt F) (d : decode cc pc = .ok (.baload, 1)) (h : mm_ld σ F i N x k = some fin) (kk : ∀ v, k v = some fin → WW K Γ n σ (pc + 1) L (.int v :: S)) : WW K Γ n σ pc L (.int x :: .ref (aa K F i) :: S) := by
  by_cases hin : x < 0 ∨ N ≤ x.toNatClampNeg
  · rw [mm_ld, if_pos hin] at h; exact nomatch h
  rw [mm_ld, if_neg hin] at h
  have k := kk _ h
  obtain ⟨p, l, e, R, s, m, args, below, meth, c, Q, c0, s0⟩ := Γ
  obtain ⟨hx, hb, hml, hown, hts, hK, hR, hlk, hz, hst, hU, hN⟩ := G
  intro H locs ls hl hP hD hS
  exact va_zald hx hb hK hP (tb_pos F i) 2 ((FL_at ar.1 hi).trans (by show some (_, ctR K F i (σ.1 F i) (σ.2 F i)) = _; rw [ar.2])) rfl hin d (k H locs ls hl hP hD hS)
theorem ww_laload {F i N : Nat} {x : Int32} {k : Int64 → RR} (G : Good K Γ cc own nL fr lo) (ar : ArJ F N) (hi : i < cnt F) (d : decode cc pc = .ok (.laload, 1)) (h : mm_ldj σ F i N x k = some fin) (kk : ∀ v, k v = some fin → WW K Γ n σ (pc + 1) L (.long v :: S)) : WW K Γ n σ pc L (.int x :: .ref (aa K F i) :: S) := by
  by_cases hin : x < 0 ∨ N ≤ x.toNatClampNeg
  · rw [mm_ldj, if_pos hin] at h; exact nomatch h
  rw [mm_ldj, if_neg hin] at h
  have k := kk _ h
  obtain ⟨p, l, e, R, s, m, args, below, meth, c, Q, c0, s0⟩ := Γ
  obtain ⟨hx, hb, hml, hown, hts, hK, hR, hlk, hz, hst, hU, hN⟩ := G
  intro H locs ls hl hP hD hS
  exact va_lald hx hb hK hP (tb_pos F i) 1 ((FL_at ar.1 hi).trans (by show some (_, ctR K F i (σ.1 F i) (σ.2 F i)) = _; rw [ar.2])) rfl hin d (k H locs ls hl hP hD hS)
theorem ww_aaload {F i N F2 t : Nat} {C : String} {g : Nat → Nat → Nat} {x : Int32} {k : Nat → RR} (G : Good K Γ cc own nL fr lo) (ar : ArA F N t C F2 g) (hi : i < cnt F) (d : decode cc pc = .ok (.aaload, 1)) (h : mm_al N x k = some fin) (kk : ∀ j, j < N → k j = some fin → WW K Γ n σ (pc + 1) L (.ref (aa K F2 (g i j)) :: S)) : WW K Γ n σ pc L (.int x :: .ref (aa K F i) :: S) := by
  by_cases hin : x < 0 ∨ N ≤ x.toNatClampNeg
  · rw [mm_al, if_pos hin] at h; exact nomatch h
  rw [mm_al, if_neg hin] at h
  have k := kk _ (Nat.lt_of_not_le fun q => hin (Or.inr q)) h
  obtain ⟨p, l, e, R, s, m, args, below, meth, c, Q, c0, s0⟩ := Γ
  obtain ⟨hx, hb, hml, hown, hts, hK, hR, hlk, hz, hst, hU, hN⟩ := G
  intro H locs ls hl hP hD hS
  exact va_aldq (f := fun j => some (aa K F2 (g i j))) hx hb hK hP (tb_pos F i) t ((FL_at ar.1 hi).trans (by show some (_, ctR K F i (σ.1 F i) (σ.2 F i)) = _; rw [ar.2.2])) (ar.2.1 K) hin d (k H locs ls hl hP hD hS)
theorem ww_iastore {F i N : Nat} {x v : Int32} {k : Mem → RR} (G : Good K Γ cc own nL fr lo) (ar : ArI F N) (hi : i < cnt F) (d : decode cc pc = .ok (.iastore, 1)) (h : mm_st σ F i N x v k = some fin) (kk : ∀ s, k s = some fin → WW K Γ n s (pc + 1) L S) : WW K Γ n σ pc L (.int v :: .int x :: .ref (aa K F i) :: S) := by
  by_cases hin : x < 0 ∨ N ≤ x.toNatClampNeg
  · rw [mm_st, if_pos hin] at h; exact nomatch h
  rw [mm_st, if_neg hin] at h
  have k := kk _ h
  obtain ⟨p, l, e, R, s, m, args, below, meth, c, Q, c0, s0⟩ := Γ
  obtain ⟨hx, hb, hml, hown, hts, hK, hR, hlk, hz, hst, hU, hN⟩ := G
  intro H locs ls hl hP hD hS
  refine va_iast hx hb hK hP hD hS (tb_pos F i) 0 ((FL_at ar.1 hi).trans (by show some (_, ctR K F i (σ.1 F i) (σ.2 F i)) = _; rw [ar.2])) rfl hin d (fun H1 locs1 hP1 hD1 hS1 => ?_)
  have e1 := FL_set (K := K) (σ' := mm_wI σ F i x.toNatClampNeg v) ar.1 hi (ct_upI σ F i _ v) ((ct_upI' σ F i _ v).trans (ar.2 K i _ _))
  rw [e1] at hP1 hD1
  exact k H1 locs1 ls hl hP1 hD1 hS1
theorem ww_bastore {F i N : Nat} {x v : Int32} {k : Mem → RR} (G : Good K Γ cc own nL fr lo) (ar : ArZ F N) (hi : i < cnt F) (d : decode cc pc = .ok (.bastore, 1)) (h : mm_sz σ F i N x v k = some fin) (kk : ∀ s, k s = some fin → WW K Γ n s (pc + 1) L S) : WW K Γ n σ pc L (.int v :: .int x :: .ref (aa K F i) :: S) := by
  by_cases hin : x < 0 ∨ N ≤ x.toNatClampNeg
  · rw [mm_sz, if_pos hin] at h; exact nomatch h
  rw [mm_sz, if_neg hin] at h
  have k := kk _ h
  obtain ⟨p, l, e, R, s, m, args, below, meth, c, Q, c0, s0⟩ := Γ
  obtain ⟨hx, hb, hml, hown, hts, hK, hR, hlk, hz, hst, hU, hN⟩ := G
  intro H locs ls hl hP hD hS
  refine va_zast hx hb hK hP hD hS (tb_pos F i) 2 ((FL_at ar.1 hi).trans (by show some (_, ctR K F i (σ.1 F i) (σ.2 F i)) = _; rw [ar.2])) rfl hin d (fun H1 locs1 hP1 hD1 hS1 => ?_)
  have e1 := FL_set (K := K) (σ' := mm_wI σ F i x.toNatClampNeg (vp_nar .boolean v)) ar.1 hi (ct_upI σ F i _ _) ((ct_upI' σ F i _ _).trans (ar.2 K i _ _))
  rw [e1] at hP1 hD1
  exact k H1 locs1 ls hl hP1 hD1 hS1
theorem ww_lastore {F i N : Nat} {x : Int32} {v : Int64} {k : Mem → RR} (G : Good K Γ cc own nL fr lo) (ar : ArJ F N) (hi : i < cnt F) (d : decode cc pc = .ok (.lastore, 1)) (h : mm_stj σ F i N x v k = some fin) (kk : ∀ s, k s = some fin → WW K Γ n s (pc + 1) L S) : WW K Γ n σ pc L (.long v :: .int x :: .ref (aa K F i) :: S) := by
  by_cases hin : x < 0 ∨ N ≤ x.toNatClampNeg
  · rw [mm_stj, if_pos hin] at h; exact nomatch h
  rw [mm_stj, if_neg hin] at h
  have k := kk _ h
  obtain ⟨p, l, e, R, s, m, args, below, meth, c, Q, c0, s0⟩ := Γ
  obtain ⟨hx, hb, hml, hown, hts, hK, hR, hlk, hz, hst, hU, hN⟩ := G
  intro H locs ls hl hP hD hS
  refine va_last hx hb hK hP hD hS (tb_pos F i) 1 ((FL_at ar.1 hi).trans (by show some (_, ctR K F i (σ.1 F i) (σ.2 F i)) = _; rw [ar.2])) rfl hin d (fun H1 locs1 hP1 hD1 hS1 => ?_)
  have e1 := FL_set (K := K) (σ' := mm_wJ σ F i x.toNatClampNeg v) ar.1 hi (ct_upJ σ F i _ v) ((ct_upJ' σ F i _ v).trans (ar.2 K i _ _))
  rw [e1] at hP1 hD1
  exact k H1 locs1 ls hl hP1 hD1 hS1
-- fields
theorem ww_getf {F i q idx : Nat} {ty : FieldType} {fn : Bool} {k : Int32 → RR} (G : Good K Γ cc own nL fr lo) (fs : FsI own idx F q ty fn) (hi : i < cnt F) (d : decode cc pc = .ok (.getfield idx, 3)) (h : mm_gf σ F i q k = some fin) (kk : ∀ v, k v = some fin → WW K Γ n σ (pc + 3) L (.int v :: S)) : WW K Γ n σ pc L (.ref (aa K F i) :: S) := by
  have k := kk _ h
  obtain ⟨hF, ci, C, T, N, ty0, hc, hq, hin, hlink, hct, hty, hnm, hfn, hpd⟩ := fs
  obtain ⟨p, l, e, R, s, m, args, below, meth, c, Q, c0, s0⟩ := Γ
  obtain ⟨hx, hb, hml, hown, hts, hK, hR, hlk, hz, hst, hU, hN⟩ := G
  intro H locs ls hl hP hD hS
  obtain ⟨fl, e1, e2, e3, e4⟩ := hct K i (σ.1 F i) (σ.2 F i)
  exact va_get hx hb hts hin hown hK hP (tb_pos F i) ((FL_at hF hi).trans (by show some (_, ctR K F i (σ.1 F i) (σ.2 F i)) = _; rw [e1])) hc q hq (hts _ hlink) (fun _ z => z) e2 d (k H locs ls hl hP hD hS)
theorem ww_getr {F i q idx F2 : Nat} {g : Nat → Nat} (G : Good K Γ cc own nL fr lo) (fs : FsR own idx F q F2 g) (hi : i < cnt F) (d : decode cc pc = .ok (.getfield idx, 3)) (k : WW K Γ n σ (pc + 3) L (.ref (aa K F2 (g i)) :: S)) : WW K Γ n σ pc L (.ref (aa K F i) :: S) := by
  obtain ⟨hF, ci, C, T, N, hc, hq, hin, hlink, hct⟩ := fs
  obtain ⟨p, l, e, R, s, m, args, below, meth, c, Q, c0, s0⟩ := Γ
  obtain ⟨hx, hb, hml, hown, hts, hK, hR, hlk, hz, hst, hU, hN⟩ := G
  intro H locs ls hl hP hD hS
  obtain ⟨fl, e1, e2⟩ := hct K i (σ.1 F i) (σ.2 F i)
  exact va_get hx hb hts hin hown hK hP (tb_pos F i) ((FL_at hF hi).trans (by show some (_, ctR K F i (σ.1 F i) (σ.2 F i)) = _; rw [e1])) hc q hq (hts _ hlink) (fun _ z => z) e2 d (k H locs ls hl hP hD hS)
theorem ww_putx {F i q idx : Nat} {v : Int32} {ty : FieldType} (G : Good K Γ cc own nL fr lo) (fs : FsI own idx F q ty false) (hn : narrow ty (.int v) = .int v) (hfit : fits ty (.int v) = true) (hi : i < cnt F) (d : decode cc pc = .ok (.putfield idx, 3)) (k : WW K Γ n (mm_wI σ F i q v) (pc + 3) L S) : WW K Γ n σ pc L (.int v :: .ref (aa K F i) :: S) := by
  obtain ⟨hF, ci, C, T, N, ty0, hc, hq, hin, hlink, hct, hty, hnm, hfn, hpd⟩ := fs
  obtain ⟨p, l, e, R, s, m, args, below, meth, c, Q, c0, s0⟩ := Γ
  obtain ⟨hx, hb, hml, hown, hts, hK, hR, hlk, hz, hst, hU, hN⟩ := G
  intro H locs ls hl hP hD hS
  obtain ⟨fl, e1, e2, e3, e4⟩ := hct K i (σ.1 F i) (σ.2 F i)
  refine va_put hx hb hts hin ty0 hty hnm hown hK hP hD hS (tb_pos F i) ((FL_at hF hi).trans (by show some (_, ctR K F i (σ.1 F i) (σ.2 F i)) = _; rw [e1])) hc q hq (hts _ hlink) (fun _ z => z) hfn hpd hn hfit e3 d (fun H1 locs1 hP1 hD1 hS1 => ?_)
  have e5 := FL_set (K := K) (σ' := mm_wI σ F i q v) hF hi (ct_upI σ F i _ v) ((ct_upI' σ F i _ v).trans (e4 v))
  rw [e5] at hP1 hD1
  exact k H1 locs1 ls hl hP1 hD1 hS1
theorem ww_putf {F i q idx : Nat} {v : Int32} {k : Mem → RR} (G : Good K Γ cc own nL fr lo) (fs : FsI own idx F q .int false) (hi : i < cnt F) (d : decode cc pc = .ok (.putfield idx, 3)) (h : mm_pf σ F i q v k = some fin) (kk : ∀ s, k s = some fin → WW K Γ n s (pc + 3) L S) : WW K Γ n σ pc L (.int v :: .ref (aa K F i) :: S) :=
  ww_putx G fs rfl rfl hi d (kk _ h)
theorem ww_putz {F i q idx : Nat} {v : Int32} {k : Mem → RR} (G : Good K Γ cc own nL fr lo) (fs : FsI own idx F q .boolean false) (hi : i < cnt F) (d : decode cc pc = .ok (.putfield idx, 3)) (h : mm_pz σ F i q v k = some fin) (kk : ∀ s, k s = some fin → WW K Γ n s (pc + 3) L S) : WW K Γ n σ pc L (.int v :: .ref (aa K F i) :: S) := by
  by_cases hv : v = 0 ∨ v = 1
  · rw [mm_pz, if_pos hv] at h
    refine ww_putx G fs ?_ ?_ hi d (kk _ h)
    · rcases hv with rfl | rfl <;> decide
    · rcases hv with rfl | rfl <;> decide
  · rw [mm_pz, if_neg hv] at h; exact nomatch h
end VMem
end
section
section VCalls
variable {K : KK} {Γ : Cx} {cc : ByteArray} {own : String} {nL fr lo : Nat} {σ : Mem} {pc : Nat} {L : List (Nat × Value)} {S : List Value} {rt : Option FieldType} {o : Oc} {q : Mem}
theorem Sta.moved {A : Nat → Prop} {U V : State} {H : Heap} {n d : String} (h : Sta A U H n d) (ha : U.vm.Alike V.vm) : Sta A V H n d := by
  obtain ⟨c, k, i, f, a, cell, v, h1, h2, h3, h4, h5, h6⟩ := h
  obtain ⟨k', hi', he⟩ := State.fieldFound?_setVm ha h2
  exact ⟨c, k', i, f, a, cell, v, by rw [ha.findClass]; exact h1, hi', h3, by rw [he]; exact h4, by rw [he]; exact h5, h6⟩
theorem Sta.kept {A : Nat → Prop} {U : State} {H H1 : Heap} {n d : String} (h : Sta A U H n d) (hq : ∀ a : Nat, a < H.size → ¬ A a → H1[a]? = H[a]?) : Sta A U H1 n d := by
  obtain ⟨c, k, i, f, a, cell, v, h1, h2, h3, h4, h5, h6, h7, h8, h9, h10, h11, h12⟩ := h
  exact ⟨c, k, i, f, a, cell, v, h1, h2, h3, h4, h5, by rw [hq a (Array.getElem?_eq_some_iff.mp h6).1 h12]; exact h6, h7, h8, h9, h10, h11, h12⟩
theorem Wd.moved {K : KK} {σ : Mem} {U V : State} (h : Wd K σ U) (hh : V.heap = U.heap) (ha : U.vm.Alike V.vm) : Wd K σ V := by
  obtain ⟨h2, h3, h4, h5, h6⟩ := h
  exact ⟨by rw [hh]; exact h2, h3, va_K.moved ha h4, by rw [hh]; exact Sta.moved h5 ha, by rw [hh]; exact Sta.moved h6 ha⟩
theorem Wd.of {K : KK} {σ : Mem} {s U : State} {H : Heap} {locs : List Loc} (hK : va_K K.2.1 vwCl (tyL K.2.2.1) s) (hU : StU K s s.heap) (hN : StN K s s.heap)
    (hP : va_P K.2.1 vwCl (FL K σ) H) (hD : va_D (AK K) (FL K σ)) (hS : va_S (AK K) s.heap H locs) (hh : U.heap = H) (ha : s.vm.Alike U.vm) : Wd K σ U :=
  ⟨by rw [hh]; exact hP, hD, va_K.moved ha hK, by rw [hh]; exact (Sta.moved hU ha).kept hS.2.1, by rw [hh]; exact (Sta.moved hN ha).kept hS.2.1⟩
theorem PcO_blind {av : List Value} : FrameBlind (PcO K av σ) := fun a U g mk h => ⟨h.1, h.2.moved rfl (Vm.Alike.refl U.vm)⟩
theorem Ct_of {l : Launch} {y : MethodName} {b : ByteArray} {mL : Nat} {av : List Value} {L : List (Nat × Value)} (hy : plainName y.cls = true) (ho : y.cls = own) (hlen : (lg_sl av).length ≤ mL) (hL : lv_args 0 av = L)
    (body : ∀ Γ : Cx, Good K Γ b own mL fr lo → Ends K Γ rt o q → WW K Γ 0 σ 0 L []) : Ct l K y b mL rt fr lo av σ o q := by
  intro hst
  subst ho
  subst hL
  cases o with
  | inr r =>
    refine Met.ofW (cc := b) (maxL := mL) (ret := rt) hy rfl ?_
    intro p e s m args below meth c s₁ B hml hv
    obtain ⟨rfl, hP, hD, hK, hU, hN⟩ := hv
    have hts := atoms_spec (ws := Cond.code y b mL rt :: wAll) B.pre
    rw [lg_entry_eq]
    exact body (p, l, e, ({ frames := fr, cells := 0, slots := 0, locals := lo } : Room), s, m, av.toArray, below, meth, c, _, 0, 0) ⟨B.exec, B.bytes, hml, findClass_of_methodNamed B.named, fun w h => hts w (List.mem_cons_of_mem _ h), hK, ⟨Nat.le_refl _, Nat.le_refl _⟩, B.notSynchronized, ⟨σ, hP⟩, hst, hU, hN⟩
      ⟨rfl, B.returns, fun pc => covers_of_empty (B.noHandlers (hts _ List.mem_cons_self)) pc, fun e h => (by cases h), rfl, rfl⟩ s.heap [] _ (by rw [hml]; exact lv_entry av hlen) hP hD va_S.rf
  | inl e =>
    refine MetFree.of_bodyS (code := b) (maxLocals := mL) (ret := rt) hy ?_ ?_
    · intro args s m h hn
      obtain ⟨meth, c, h1, h2, h3, h4, h5, h6, -, -⟩ := Cond.code_spec hn (atoms_spec (ws := Cond.code y b mL rt :: wAll) h _ List.mem_cons_self)
      exact ⟨meth, c, h1, h2, h3, h4, h5, h6⟩
    · intro p e' s m args below meth c s₁ B hml hv _
      obtain ⟨rfl, hP, hD, hK, hU, hN⟩ := hv
      have hts := atoms_spec (ws := Cond.code y b mL rt :: wAll) B.pre
      have hh0 : s₁.heap = s.heap := by rw [B.state]; rfl
      have hw := body (p, l, e', ({ frames := fr, cells := 1, slots := 6, locals := lo } : Room), s, m, av.toArray, below, meth, c, EQ K below av.toArray s (.inl e) q, 0, 0) ⟨B.exec, B.bytes, hml, findClass_of_methodNamed B.named, fun w h => hts w (List.mem_cons_of_mem _ h), hK, ⟨Nat.le_refl _, Nat.le_refl _⟩, B.notSynchronized, ⟨σ, hP⟩, hst, hU, hN⟩
        ⟨rfl, B.returns, fun pc => covers_of_empty (B.noHandlers (hts _ List.mem_cons_self)) pc, fun _ _ => ⟨Nat.le_refl _, Nat.le_refl _⟩, rfl, rfl⟩ s.heap [] _ (by rw [hml]; exact lv_entry av hlen) hP hD va_S.rf
      rw [lg_entry_eq]
      obtain ⟨t, a1, oc, b1, b2, b3⟩ := hw s₁ hh0 (Stand.of_body B)
      exact ⟨t, oc, a1, b1, b2, b3⟩
theorem ww_iret {v : Int32} (G : Good K Γ cc own nL fr lo) (E : Ends K Γ (some .int) o q) (d : decode cc pc = .ok (.ireturn, 1)) (h : mm_ri v σ = some (o, q)) : WW K Γ 0 σ pc L [.int v] := by
  obtain ⟨rfl, rfl⟩ : .inr (some (.int v)) = o ∧ σ = q := ⟨congrArg Prod.fst (Option.some.inj h), congrArg Prod.snd (Option.some.inj h)⟩
  obtain ⟨p, l, e, R, s, m, args, below, meth, c, Q, c0, s0⟩ := Γ
  obtain ⟨hx, hb, hml, hown, hts, hK, hR, hlk, hz, hst, hU, hN⟩ := G
  obtain ⟨rfl, hr, hex, hc, rfl, rfl⟩ := E
  intro H locs ls hl hP hD hS
  exact W.iret hx hb hr (fun t ht hW => ⟨rfl, Wd.of hK hU hN hP hD hS ht hW.alike, hS.F ht⟩) hS.2.2 d hlk
theorem ww_zret {v : Int32} (G : Good K Γ cc own nL fr lo) (E : Ends K Γ (some .boolean) o q) (d : decode cc pc = .ok (.ireturn, 1)) (h : mm_rz v σ = some (o, q)) : WW K Γ 0 σ pc L [.int v] := by
  by_cases hv : v = 0 ∨ v = 1
  case neg => rw [mm_rz, if_neg hv] at h; exact nomatch h
  rw [mm_rz, if_pos hv] at h
  obtain ⟨rfl, rfl⟩ : .inr (some (.int v)) = o ∧ σ = q := ⟨congrArg Prod.fst (Option.some.inj h), congrArg Prod.snd (Option.some.inj h)⟩
  obtain ⟨p, l, e, R, s, m, args, below, meth, c, Q, c0, s0⟩ := Γ
  obtain ⟨hx, hb, hml, hown, hts, hK, hR, hlk, hz, hst, hU, hN⟩ := G
  obtain ⟨rfl, hr, hex, hc, rfl, rfl⟩ := E
  intro H locs ls hl hP hD hS
  exact W.zret hx hb hr (by rcases hv with rfl | rfl <;> decide) (fun t ht hW => ⟨rfl, Wd.of hK hU hN hP hD hS ht hW.alike, hS.F ht⟩) hS.2.2 d hlk
theorem ww_lret {v : Int64} (G : Good K Γ cc own nL fr lo) (E : Ends K Γ (some .long) o q) (d : decode cc pc = .ok (.lreturn, 1)) (h : mm_rj v σ = some (o, q)) : WW K Γ 0 σ pc L [.long v] := by
  obtain ⟨rfl, rfl⟩ : .inr (some (.long v)) = o ∧ σ = q := ⟨congrArg Prod.fst (Option.some.inj h), congrArg Prod.snd (Option.some.inj h)⟩
  obtain ⟨p, l, e, R, s, m, args, below, meth, c, Q, c0, s0⟩ := Γ
  obtain ⟨hx, hb, hml, hown, hts, hK, hR, hlk, hz, hst, hU, hN⟩ := G
  obtain ⟨rfl, hr, hex, hc, rfl, rfl⟩ := E
  intro H locs ls hl hP hD hS
  exact W.lret hx hb hr (fun t ht hW => ⟨rfl, Wd.of hK hU hN hP hD hS ht hW.alike, hS.F ht⟩) hS.2.2 d hlk
theorem ww_vret (G : Good K Γ cc own nL fr lo) (E : Ends K Γ none o q) (d : decode cc pc = .ok (.return_, 1)) (h : mm_rv σ = some (o, q)) : WW K Γ 0 σ pc L [] := by
  obtain ⟨rfl, rfl⟩ : .inr none = o ∧ σ = q := ⟨congrArg Prod.fst (Option.some.inj h), congrArg Prod.snd (Option.some.inj h)⟩
  obtain ⟨p, l, e, R, s, m, args, below, meth, c, Q, c0, s0⟩ := Γ
  obtain ⟨hx, hb, hml, hown, hts, hK, hR, hlk, hz, hst, hU, hN⟩ := G
  obtain ⟨rfl, hr, hex, hc, rfl, rfl⟩ := E
  intro H locs ls hl hP hD hS
  exact W.vret hx hb hr (fun t ht hW => ⟨rfl, Wd.of hK hU hN hP hD hS ht hW.alike, hS.F ht⟩) hS.2.2 d hlk
-- behind a call that returns
theorem ran_ret {p : Program} {l : Launch} {e : Env} {R : Room} {s : State} {m : MethodId} {args : Array Value} {below : List Frame} {meth : Method} {c : Code} {H : Heap} {locs : List Loc} {cells slots : Nat} {Q : State → Prop} {ls : Array Slot} {st0 rest : List Value} {a : Array Value} {r : Option Value} {q1 : Mem}
    (hr : va_Run p l e R s m args below meth c H locs cells slots 0 0 (F0 m pc ls st0) rest (QcR K r q1 a) (AK K)) (hS : va_S (AK K) s.heap H locs)
    (kk : ∀ (H1 : Heap) (locs1 : List Loc), va_P K.2.1 vwCl (FL K q1) H1 → va_D (AK K) (FL K q1) → va_S (AK K) s.heap H1 locs1 → W p l e R s m args below meth c H1 locs1 cells slots Q (F0 m (pc + 3) ls (r.toList ++ rest))) :
    W p l e R s m args below meth c H locs cells slots Q (F0 m pc ls st0) := by
  intro T hT X
  obtain ⟨v, st₀, t, T', L, h0, X', hL, e1, e2, ⟨hv, hW, hF⟩, st⟩ := hr T hT X
  cases hv
  obtain ⟨hz, hk⟩ := hF
  rw [h0] at hz hk
  have hS' : va_S (AK K) s.heap T'.heap (locs ++ L) := ⟨Nat.le_trans hS.1 (by rw [e1]; exact hz), fun q h1 h2 => by rw [e1, hk q (Nat.lt_of_lt_of_le h1 hS.1) h2]; exact hS.2.1 q h1 h2, fun q hq => (List.mem_append.mp hq).elim (hS.2.2 q) (hL q)⟩
  obtain ⟨t2, a1, b1⟩ := kk T'.heap (locs ++ L) (by rw [e1]; exact hW.1) hW.2.1 hS' T' rfl X'
  exact ⟨t2, st t2 a1, b1⟩
theorem ww_goR {st0 rest : List Value} {a : Array Value} {r : Option Value} {q1 : Mem} (hr : match Γ with | (p, l, e, R, s, m, args, below, meth, c, Q, c0, s0) => ∀ (H : Heap) (locs : List Loc) (ls : Array Slot), lv_has ls c.maxLocals L → va_P K.2.1 vwCl (FL K σ) H → va_D (AK K) (FL K σ) → va_S (AK K) s.heap H locs → va_Run p l e R s m args below meth c H locs (c0 + 0) (s0 + 6 * 0) 0 0 (F0 m pc ls st0) rest (QcR K r q1 a) (AK K))
    (k : WW K Γ 0 q1 (pc + 3) L (r.toList ++ rest)) : WW K Γ 0 σ pc L st0 := by
  obtain ⟨p, l, e, R, s, m, args, below, meth, c, Q, c0, s0⟩ := Γ
  intro H locs ls hl hP hD hS
  exact ran_ret (hr H locs ls hl hP hD hS) hS (fun H1 locs1 h1 h2 h3 => k H1 locs1 ls hl h1 h2 h3)
theorem ww_callV {As rest : List Value} {i F idx na : Nat} {y : MethodName} {b1 : ByteArray} {mL fr1 lo1 : Nat} {rt1 : Option FieldType} {r : Option Value} {q1 : Mem} (G : Good K Γ cc own nL fr lo) (E : Ends K Γ rt o q) (cs : CsV own idx y b1 mL rt1 na F) (hi : i < cnt F) (hC : Ct (Γ.2.1) K y b1 mL rt1 fr1 lo1 (.ref (aa K F i) :: As) σ (.inr r) q1)
    (hS0 : S = As.reverse ++ .ref (aa K F i) :: rest) (hn : As.length = na) (hw : (rest.map fun v => v.category).sum ≤ 8) (d : decode cc pc = .ok (.invokevirtual idx, 3)) (hR : fr1 + 1 ≤ fr ∧ 8 + (mL + 11) + lo1 ≤ lo) (k : WW K Γ 0 q1 (pc + 3) L (r.toList ++ rest)) : WW K Γ 0 σ pc L S := by
  subst hS0
  refine ww_goR (a := (Value.ref (aa K F i) :: As).toArray) (q1 := q1) (r := r) (rest := rest) ?_ k
  obtain ⟨p, l, e, R, s, m, args, below, meth, c, Q, c0, s0⟩ := Γ
  obtain ⟨hx, hb, hml, hown, hts, hK, hRR, hlk, hz, hst, hU, hN⟩ := G
  obtain ⟨rfl, hrt, hex, hc, rfl, rfl⟩ := E
  obtain ⟨hF, ci, T, N, hcl, hct, hgood, hd⟩ := cs
  intro H locs ls hl hP hD hS
  have hcw : CallW R s args own y.cls idx y b1 mL rt1 (.code y b1 mL rt1 :: wAll) { frames := fr1, cells := 0, slots := 0, locals := lo1 } 0 0 na :=
    cwV na hts hgood rfl rfl rfl ⟨rfl, hd⟩ ⟨Nat.le_trans hR.1 hRR.1, Nat.le_trans hR.2 hRR.2⟩
  obtain ⟨fl, e1⟩ := hct K i (σ.1 F i) (σ.2 F i)
  refine va_runV ⟨hx, hb, rfl, hown, hts⟩ (hC hst) hcw ⟨PcO_blind, ?_, fun U hU' hW => ⟨rfl, Wd.of hK hU hN hP hD hS hU' hW.alike⟩⟩ rfl hn hl.1 rfl (lv_room hw) d ⟨Nat.zero_le _, Nat.zero_le _⟩
  exact va_recv (q := (y.cls, T, N)) hK hP hcl ((FL_at hF hi).trans (by show some (_, ctR K F i (σ.1 F i) (σ.2 F i)) = _; rw [e1]))
theorem ww_callS {As rest : List Value} {idx na : Nat} {y : MethodName} {b1 : ByteArray} {mL fr1 lo1 : Nat} {rt1 : Option FieldType} {r : Option Value} {q1 : Mem} (G : Good K Γ cc own nL fr lo) (E : Ends K Γ rt o q) (cs : CsS own idx y b1 mL rt1 na) (hC : Ct (Γ.2.1) K y b1 mL rt1 fr1 lo1 As σ (.inr r) q1)
    (hS0 : S = As.reverse ++ rest) (hn : As.length = na) (hw : (rest.map fun v => v.category).sum ≤ 8) (d : decode cc pc = .ok (.invokestatic idx, 3)) (hR : fr1 + 1 ≤ fr ∧ 8 + (mL + 11) + lo1 ≤ lo) (k : WW K Γ 0 q1 (pc + 3) L (r.toList ++ rest)) : WW K Γ 0 σ pc L S := by
  subst hS0
  refine ww_goR (a := As.toArray) (q1 := q1) (r := r) (rest := rest) ?_ k
  obtain ⟨p, l, e, R, s, m, args, below, meth, c, Q, c0, s0⟩ := Γ
  obtain ⟨hx, hb, hml, hown, hts, hK, hRR, hlk, hz, hst, hU, hN⟩ := G
  obtain ⟨rfl, hrt, hex, hc, rfl, rfl⟩ := E
  intro H locs ls hl hP hD hS
  have hcw : CallB R s args own idx y b1 mL rt1 (.code y b1 mL rt1 :: wAll) { frames := fr1, cells := 0, slots := 0, locals := lo1 } 0 0 na ∧ (Cond.static y).before args s = true :=
    va_cwS na hts cs.1 rfl rfl rfl cs.2 ⟨Nat.le_trans hR.1 hRR.1, Nat.le_trans hR.2 hRR.2⟩
  exact va_runS ⟨hx, hb, rfl, hown, hts⟩ (hC hst) hcw ⟨PcO_blind, fun U hU' hW => ⟨rfl, Wd.of hK hU hN hP hD hS hU' hW.alike⟩⟩ rfl hn hl.1 rfl (lv_room hw) d ⟨Nat.zero_le _, Nat.zero_le _⟩
theorem ww_cvI {As rest : List Value} {i F : Nat} {idx na : Nat} {y : MethodName} {b1 : ByteArray} {mL fr1 lo1 : Nat} {rt1 : Option FieldType} {X : RR} {k : Int32 → Mem → RR} (G : Good K Γ cc own nL fr lo) (E : Ends K Γ rt o q) (cs : CsV own idx y b1 mL rt1 na F) (hi : i < cnt F) (hC : ∀ o1 q1, X = some (o1, q1) → Ct (Γ.2.1) K y b1 mL rt1 fr1 lo1 (.ref (aa K F i) :: As) σ o1 q1) (hS0 : S = As.reverse ++ .ref (aa K F i) :: rest) (hn : As.length = na) (hw : (rest.map fun v => v.category).sum ≤ 8) (d : decode cc pc = .ok (.invokevirtual idx, 3)) (hR : fr1 + 1 ≤ fr ∧ 8 + (mL + 11) + lo1 ≤ lo) (h : mm_cI X k = some (o, q)) (kk : ∀ v s, k v s = some (o, q) → WW K Γ 0 s (pc + 3) L (.int v :: rest)) : WW K Γ 0 σ pc L S := by
  unfold mm_cI at h
  split at h
  · exact ww_callV G E cs hi (hC _ _ rfl) hS0 hn hw d hR (kk _ _ h)
  · exact nomatch h
theorem ww_cvJ {As rest : List Value} {i F : Nat} {idx na : Nat} {y : MethodName} {b1 : ByteArray} {mL fr1 lo1 : Nat} {rt1 : Option FieldType} {X : RR} {k : Int64 → Mem → RR} (G : Good K Γ cc own nL fr lo) (E : Ends K Γ rt o q) (cs : CsV own idx y b1 mL rt1 na F) (hi : i < cnt F) (hC : ∀ o1 q1, X = some (o1, q1) → Ct (Γ.2.1) K y b1 mL rt1 fr1 lo1 (.ref (aa K F i) :: As) σ o1 q1) (hS0 : S = As.reverse ++ .ref (aa K F i) :: rest) (hn : As.length = na) (hw : (rest.map fun v => v.category).sum ≤ 8) (d : decode cc pc = .ok (.invokevirtual idx, 3)) (hR : fr1 + 1 ≤ fr ∧ 8 + (mL + 11) + lo1 ≤ lo) (h : mm_cJ X k = some (o, q)) (kk : ∀ v s, k v s = some (o, q) → WW K Γ 0 s (pc + 3) L (.long v :: rest)) : WW K Γ 0 σ pc L S := by
  unfold mm_cJ at h
  split at h
  · exact ww_callV G E cs hi (hC _ _ rfl) hS0 hn hw d hR (kk _ _ h)
  · exact nomatch h
theorem ww_cvV {As rest : List Value} {i F : Nat} {idx na : Nat} {y : MethodName} {b1 : ByteArray} {mL fr1 lo1 : Nat} {rt1 : Option FieldType} {X : RR} {k : Mem → RR} (G : Good K Γ cc own nL fr lo) (E : Ends K Γ rt o q) (cs : CsV own idx y b1 mL rt1 na F) (hi : i < cnt F) (hC : ∀ o1 q1, X = some (o1, q1) → Ct (Γ.2.1) K y b1 mL rt1 fr1 lo1 (.ref (aa K F i) :: As) σ o1 q1) (hS0 : S = As.reverse ++ .ref (aa K F i) :: rest) (hn : As.length = na) (hw : (rest.map fun v => v.category).sum ≤ 8) (d : decode cc pc = .ok (.invokevirtual idx, 3)) (hR : fr1 + 1 ≤ fr ∧ 8 + (mL + 11) + lo1 ≤ lo) (h : mm_cV X k = some (o, q)) (kk : ∀ s, k s = some (o, q) → WW K Γ 0 s (pc + 3) L (rest)) : WW K Γ 0 σ pc L S := by
  unfold mm_cV at h
  split at h
  · exact ww_callV G E cs hi (hC _ _ rfl) hS0 hn hw d hR (kk _ h)
  · exact nomatch h
theorem ww_csI {As rest : List Value} {idx na : Nat} {y : MethodName} {b1 : ByteArray} {mL fr1 lo1 : Nat} {rt1 : Option FieldType} {X : RR} {k : Int32 → Mem → RR} (G : Good K Γ cc own nL fr lo) (E : Ends K Γ rt o q) (cs : CsS own idx y b1 mL rt1 na) (hC : ∀ o1 q1, X = some (o1, q1) → Ct (Γ.2.1) K y b1 mL rt1 fr1 lo1 As σ o1 q1) (hS0 : S = As.reverse ++ rest) (hn : As.length = na) (hw : (rest.map fun v => v.category).sum ≤ 8) (d : decode cc pc = .ok (.invokestatic idx, 3)) (hR : fr1 + 1 ≤ fr ∧ 8 + (mL + 11) + lo1 ≤ lo) (h : mm_cI X k = some (o, q)) (kk : ∀ v s, k v s = some (o, q) → WW K Γ 0 s (pc + 3) L (.int v :: rest)) : WW K Γ 0 σ pc L S := by
  unfold mm_cI at h
  split at h
  · exact ww_callS G E cs (hC _ _ rfl) hS0 hn hw d hR (kk _ _ h)
  · exact nomatch h
theorem ww_csJ {As rest : List Value} {idx na : Nat} {y : MethodName} {b1 : ByteArray} {mL fr1 lo1 : Nat} {rt1 : Option FieldType} {X : RR} {k : Int64 → Mem → RR} (G : Good K Γ cc own nL fr lo) (E : Ends K Γ rt o q) (cs : CsS own idx y b1 mL rt1 na) (hC : ∀ o1 q1, X = some (o1, q1) → Ct (Γ.2.1) K y b1 mL rt1 fr1 lo1 As σ o1 q1) (hS0 : S = As.reverse ++ rest) (hn : As.length = na) (hw : (rest.map fun v => v.category).sum ≤ 8) (d : decode cc pc = .ok (.invokestatic idx, 3)) (hR : fr1 + 1 ≤ fr ∧ 8 + (mL + 11) + lo1 ≤ lo) (h : mm_cJ X k = some (o, q)) (kk : ∀ v s, k v s = some (o, q) → WW K Γ 0 s (pc + 3) L (.long v :: rest)) : WW K Γ 0 σ pc L S := by
  unfold mm_cJ at h
  split at h
  · exact ww_callS G E cs (hC _ _ rfl) hS0 hn hw d hR (kk _ _ h)
  · exact nomatch h
theorem ww_csV {As rest : List Value} {idx na : Nat} {y : MethodName} {b1 : ByteArray} {mL fr1 lo1 : Nat} {rt1 : Option FieldType} {X : RR} {k : Mem → RR} (G : Good K Γ cc own nL fr lo) (E : Ends K Γ rt o q) (cs : CsS own idx y b1 mL rt1 na) (hC : ∀ o1 q1, X = some (o1, q1) → Ct (Γ.2.1) K y b1 mL rt1 fr1 lo1 As σ o1 q1) (hS0 : S = As.reverse ++ rest) (hn : As.length = na) (hw : (rest.map fun v => v.category).sum ≤ 8) (d : decode cc pc = .ok (.invokestatic idx, 3)) (hR : fr1 + 1 ≤ fr ∧ 8 + (mL + 11) + lo1 ≤ lo) (h : mm_cV X k = some (o, q)) (kk : ∀ s, k s = some (o, q) → WW K Γ 0 s (pc + 3) L (rest)) : WW K Γ 0 σ pc L S := by
  unfold mm_cV at h
  split at h
  · exact ww_callS G E cs (hC _ _ rfl) hS0 hn hw d hR (kk _ h)
  · exact nomatch h
theorem ww_tsV {As rest : List Value} {idx na : Nat} {y : MethodName} {b1 : ByteArray} {mL fr1 lo1 : Nat} {rt1 : Option FieldType} {X : RR} {k : Mem → RR} (G : Good K Γ cc own nL fr lo) (E : Ends K Γ rt o q) (cs : CsS own idx y b1 mL rt1 na) (hC : ∀ o1 q1, X = some (o1, q1) → Ct (Γ.2.1) K y b1 mL rt1 fr1 lo1 As σ o1 q1) (hS0 : S = As.reverse ++ rest) (hn : As.length = na) (hw : (rest.map fun v => v.category).sum ≤ 8) (d : decode cc pc = .ok (.invokestatic idx, 3)) (hR : fr1 + 1 ≤ fr ∧ 8 + (mL + 11) + lo1 ≤ lo) (h : mm_tV X k = some (o, q)) (kk : ∀ s, k s = some (o, q) → WW K Γ 0 s (pc + 3) L (rest)) : WW K Γ 0 σ pc L S := by
  unfold mm_tV at h
  split at h
  · exact ww_callS G E cs (hC _ _ rfl) hS0 hn hw d hR (kk _ h)
  · sorry
  · exact nomatch h
theorem ww_thr {cls : String} {ik ic e1 : Nat} (G : Good K Γ cc own nL fr lo) (E : Ends K Γ rt o q) (xs : Xs own ik ic cls e1) (d0 : decode cc pc = .ok (.new ik, 3)) (d3 : decode cc (pc + 3) = .ok (.dup, 1)) (d4 : decode cc (pc + 4) = .ok (.invokespecial ic, 3)) (d7 : decode cc (pc + 7) = .ok (.athrow, 1)) (hf : 6 ≤ fr ∧ 89 ≤ lo) (h : mm_th e1 σ = some (o, q)) : WW K Γ 0 σ pc L S := by
  sorry
theorem ww_acopy {F i N F2 i2 N2 idx : Nat} {sp dp w : Int32} {k : Mem → RR} (G : Good K Γ cc own nL fr lo) (ac : Ac own idx) (a1 : ArJ F N) (h1 : i < cnt F) (a2 : ArJ F2 N2) (h2 : i2 < cnt F2) (hne : F ≠ F2) (d : decode cc pc = .ok (.invokestatic idx, 3)) (h : mm_cp σ F i N sp F2 i2 N2 dp w k = some (o, q)) (kk : ∀ s, k s = some (o, q) → WW K Γ 0 s (pc + 3) L S) : WW K Γ 0 σ pc L (.int w :: .int dp :: .ref (aa K F2 i2) :: .int sp :: .ref (aa K F i) :: S) := by
  sorry
-- the library's own
theorem ww_mmax {x y : Int32} {idx : Nat} (G : Good K Γ cc own nL fr lo) (mx : Mx own idx Lib.Math.max.name Lib.Math.max.code) (hf : 1 ≤ fr ∧ 21 ≤ lo) (hw : (S.map fun v => v.category).sum ≤ 8) (d : decode cc pc = .ok (.invokestatic idx, 3)) (k : WW K Γ 0 σ (pc + 3) L (.int (mm_max x y) :: S)) : WW K Γ 0 σ pc L (.int y :: .int x :: S) := by
  sorry
theorem ww_mmin {x y : Int32} {idx : Nat} (G : Good K Γ cc own nL fr lo) (mx : Mx own idx Lib.Math.min.name Lib.Math.min.code) (hf : 1 ≤ fr ∧ 21 ≤ lo) (hw : (S.map fun v => v.category).sum ≤ 8) (d : decode cc pc = .ok (.invokestatic idx, 3)) (k : WW K Γ 0 σ (pc + 3) L (.int (mm_min x y) :: S)) : WW K Γ 0 σ pc L (.int y :: .int x :: S) := by
  sorry
end VCalls
end
section
theorem ib_6 : (Int8.ofInt 6).toInt32 = (6 : Int32) := by decide
theorem ib_7 : (Int8.ofInt 7).toInt32 = (7 : Int32) := by decide
theorem ib_8 : (Int8.ofInt 8).toInt32 = (8 : Int32) := by decide
theorem ib_10 : (Int8.ofInt 10).toInt32 = (10 : Int32) := by decide
theorem ib_11 : (Int8.ofInt 11).toInt32 = (11 : Int32) := by decide
theorem ib_12 : (Int8.ofInt 12).toInt32 = (12 : Int32) := by decide
theorem ib_16 : (Int8.ofInt 16).toInt32 = (16 : Int32) := by decide
theorem ib_24 : (Int8.ofInt 24).toInt32 = (24 : Int32) := by decide
theorem ib_27 : (Int8.ofInt 27).toInt32 = (27 : Int32) := by decide
theorem ib_32 : (Int8.ofInt 32).toInt32 = (32 : Int32) := by decide
theorem ib_40 : (Int8.ofInt 40).toInt32 = (40 : Int32) := by decide
theorem ib_41 : (Int8.ofInt 41).toInt32 = (41 : Int32) := by decide
theorem ib_64 : (Int8.ofInt 64).toInt32 = (64 : Int32) := by decide
theorem ic_m1 : Int32.ofInt (-1) = (-1 : Int32) := by decide
theorem ic_0 : Int32.ofInt 0 = (0 : Int32) := by decide
theorem ic_1 : Int32.ofInt 1 = (1 : Int32) := by decide
theorem ic_2 : Int32.ofInt 2 = (2 : Int32) := by decide
theorem ic_3 : Int32.ofInt 3 = (3 : Int32) := by decide
theorem ic_4 : Int32.ofInt 4 = (4 : Int32) := by decide
theorem ic_5 : Int32.ofInt 5 = (5 : Int32) := by decide
theorem ic_10080 : Int32.ofInt 10080 = (10080 : Int32) := by decide
theorem is_168 : (Int16.ofInt 168).toInt32 = (168 : Int32) := by decide
theorem is_200 : (Int16.ofInt 200).toInt32 = (200 : Int32) := by decide
theorem is_201 : (Int16.ofInt 201).toInt32 = (201 : Int32) := by decide
theorem is_255 : (Int16.ofInt 255).toInt32 = (255 : Int32) := by decide
theorem is_7200 : (Int16.ofInt 7200).toInt32 = (7200 : Int32) := by decide
theorem is_10079 : (Int16.ofInt 10079).toInt32 = (10079 : Int32) := by decide
theorem is_10080 : (Int16.ofInt 10080).toInt32 = (10080 : Int32) := by decide
theorem is_20000 : (Int16.ofInt 20000).toInt32 = (20000 : Int32) := by decide
theorem is_20160 : (Int16.ofInt 20160).toInt32 = (20160 : Int32) := by decide
theorem lc_0 : Int64.ofNat ((0 : Fin 2) : Nat) = (0 : Int64) := by decide
theorem kw_M_133 : Cond.constant "VillageMailModel" 133 (2147483647 : Int32) ∈ wAll := wa_at (i := 890) (by decide +kernel) rfl
theorem kw_M_141 : Cond.constant "VillageMailModel" 141 (2000000000 : Int32) ∈ wAll := wa_at (i := 885) (by decide +kernel) rfl
theorem kw_R_29 : Cond.constant "VillageMail$Ride" 29 (2147483647 : Int32) ∈ wAll := wa_at (i := 503) (by decide +kernel) rfl
theorem kw_X_110 : Cond.constant "VillageMail" 110 (2000000000 : Int32) ∈ wAll := wa_at (i := 719) (by decide +kernel) rfl
theorem kw_X_123 : Cond.constant "VillageMail" 123 (2147483647 : Int32) ∈ wAll := wa_at (i := 516) (by decide +kernel) rfl
theorem kw_X_353 : Cond.constantLong "VillageMail" 353 (255 : Int64) ∈ wAll := wa_at (i := 283) (by decide +kernel) rfl
theorem fs_B_15 : FsI "VillageMail$Box" 15 16 3 .int false := ⟨by decide, 0, "VillageMail$Box", T_B, 4, ty_B, rfl, by decide, in_B, wa_at (i := 117) (by decide +kernel) rfl, fun K i r j => ⟨_, rfl, rfl, Nat.le_of_ble_eq_true rfl, fun v => rfl⟩, tk_B, nm_B, rfl, by decide +kernel⟩
theorem fs_B_19 : FsI "VillageMail$Box" 19 16 2 .int false := ⟨by decide, 0, "VillageMail$Box", T_B, 4, ty_B, rfl, by decide, in_B, wa_at (i := 115) (by decide +kernel) rfl, fun K i r j => ⟨_, rfl, rfl, Nat.le_of_ble_eq_true rfl, fun v => rfl⟩, tk_B, nm_B, rfl, by decide +kernel⟩
theorem fs_B_22 : FsI "VillageMail$Box" 22 16 1 .int false := ⟨by decide, 0, "VillageMail$Box", T_B, 4, ty_B, rfl, by decide, in_B, wa_at (i := 113) (by decide +kernel) rfl, fun K i r j => ⟨_, rfl, rfl, Nat.le_of_ble_eq_true rfl, fun v => rfl⟩, tk_B, nm_B, rfl, by decide +kernel⟩
theorem fs_B_9 : FsR "VillageMail$Box" 9 16 0 17 (fun i => i) := ⟨by decide, 0, "VillageMail$Box", T_B, 4, rfl, by decide, in_B, wa_at (i := 111) (by decide +kernel) rfl, fun K i r j => ⟨_, rfl, rfl⟩⟩
theorem fs_C_11 : FsR "VillageMail$Boxes" 11 13 0 14 (fun i => i) := ⟨by decide, 1, "VillageMail$Boxes", T_C, 2, rfl, by decide, in_C, wa_at (i := 128) (by decide +kernel) rfl, fun K i r j => ⟨_, rfl, rfl⟩⟩
theorem fs_C_18 : FsR "VillageMail$Boxes" 18 13 1 15 (fun i => i) := ⟨by decide, 1, "VillageMail$Boxes", T_C, 2, rfl, by decide, in_C, wa_at (i := 130) (by decide +kernel) rfl, fun K i r j => ⟨_, rfl, rfl⟩⟩
theorem fs_M_101 : FsR "VillageMailModel" 101 30 37 61 (fun i => 0) := ⟨by decide, 8, "VillageMailModel", T_M, 38, rfl, by decide, in_M, wa_at (i := 770) (by decide +kernel) rfl, fun K i r j => ⟨_, rfl, rfl⟩⟩
theorem fs_M_104 : FsI "VillageMailModel" 104 30 31 .int false := ⟨by decide, 8, "VillageMailModel", T_M, 38, ty_M, rfl, by decide, in_M, wa_at (i := 764) (by decide +kernel) rfl, fun K i r j => ⟨_, rfl, rfl, Nat.le_of_ble_eq_true rfl, fun v => rfl⟩, tk_M, nm_M, rfl, by decide +kernel⟩
theorem fs_M_112 : FsI "VillageMailModel" 112 30 7 .int false := ⟨by decide, 8, "VillageMailModel", T_M, 38, ty_M, rfl, by decide, in_M, wa_at (i := 740) (by decide +kernel) rfl, fun K i r j => ⟨_, rfl, rfl, Nat.le_of_ble_eq_true rfl, fun v => rfl⟩, tk_M, nm_M, rfl, by decide +kernel⟩
theorem fs_M_13 : FsR "VillageMailModel" 13 30 1 32 (fun i => 0) := ⟨by decide, 8, "VillageMailModel", T_M, 38, rfl, by decide, in_M, wa_at (i := 734) (by decide +kernel) rfl, fun K i r j => ⟨_, rfl, rfl⟩⟩
theorem fs_M_130 : FsI "VillageMailModel" 130 30 4 .int false := ⟨by decide, 8, "VillageMailModel", T_M, 38, ty_M, rfl, by decide, in_M, wa_at (i := 737) (by decide +kernel) rfl, fun K i r j => ⟨_, rfl, rfl, Nat.le_of_ble_eq_true rfl, fun v => rfl⟩, tk_M, nm_M, rfl, by decide +kernel⟩
theorem fs_M_16 : FsR "VillageMailModel" 16 30 2 33 (fun i => 0) := ⟨by decide, 8, "VillageMailModel", T_M, 38, rfl, by decide, in_M, wa_at (i := 735) (by decide +kernel) rfl, fun K i r j => ⟨_, rfl, rfl⟩⟩
theorem fs_M_180 : FsI "VillageMailModel" 180 30 30 .int false := ⟨by decide, 8, "VillageMailModel", T_M, 38, ty_M, rfl, by decide, in_M, wa_at (i := 763) (by decide +kernel) rfl, fun K i r j => ⟨_, rfl, rfl, Nat.le_of_ble_eq_true rfl, fun v => rfl⟩, tk_M, nm_M, rfl, by decide +kernel⟩
theorem fs_M_186 : FsI "VillageMailModel" 186 30 5 .int false := ⟨by decide, 8, "VillageMailModel", T_M, 38, ty_M, rfl, by decide, in_M, wa_at (i := 738) (by decide +kernel) rfl, fun K i r j => ⟨_, rfl, rfl, Nat.le_of_ble_eq_true rfl, fun v => rfl⟩, tk_M, nm_M, rfl, by decide +kernel⟩
theorem fs_M_19 : FsR "VillageMailModel" 19 30 3 34 (fun i => 0) := ⟨by decide, 8, "VillageMailModel", T_M, 38, rfl, by decide, in_M, wa_at (i := 736) (by decide +kernel) rfl, fun K i r j => ⟨_, rfl, rfl⟩⟩
theorem fs_M_198 : FsI "VillageMailModel" 198 30 35 .int false := ⟨by decide, 8, "VillageMailModel", T_M, 38, ty_M, rfl, by decide, in_M, wa_at (i := 768) (by decide +kernel) rfl, fun K i r j => ⟨_, rfl, rfl, Nat.le_of_ble_eq_true rfl, fun v => rfl⟩, tk_M, nm_M, rfl, by decide +kernel⟩
theorem fs_M_201 : FsI "VillageMailModel" 201 30 36 .int false := ⟨by decide, 8, "VillageMailModel", T_M, 38, ty_M, rfl, by decide, in_M, wa_at (i := 769) (by decide +kernel) rfl, fun K i r j => ⟨_, rfl, rfl, Nat.le_of_ble_eq_true rfl, fun v => rfl⟩, tk_M, nm_M, rfl, by decide +kernel⟩
theorem fs_M_22 : FsR "VillageMailModel" 22 30 6 35 (fun i => 0) := ⟨by decide, 8, "VillageMailModel", T_M, 38, rfl, by decide, in_M, wa_at (i := 739) (by decide +kernel) rfl, fun K i r j => ⟨_, rfl, rfl⟩⟩
theorem fs_M_25 : FsR "VillageMailModel" 25 30 8 36 (fun i => 0) := ⟨by decide, 8, "VillageMailModel", T_M, 38, rfl, by decide, in_M, wa_at (i := 741) (by decide +kernel) rfl, fun K i r j => ⟨_, rfl, rfl⟩⟩
theorem fs_M_28 : FsR "VillageMailModel" 28 30 9 37 (fun i => 0) := ⟨by decide, 8, "VillageMailModel", T_M, 38, rfl, by decide, in_M, wa_at (i := 742) (by decide +kernel) rfl, fun K i r j => ⟨_, rfl, rfl⟩⟩
theorem fs_M_31 : FsR "VillageMailModel" 31 30 10 38 (fun i => 0) := ⟨by decide, 8, "VillageMailModel", T_M, 38, rfl, by decide, in_M, wa_at (i := 743) (by decide +kernel) rfl, fun K i r j => ⟨_, rfl, rfl⟩⟩
theorem fs_M_34 : FsR "VillageMailModel" 34 30 11 39 (fun i => 0) := ⟨by decide, 8, "VillageMailModel", T_M, 38, rfl, by decide, in_M, wa_at (i := 744) (by decide +kernel) rfl, fun K i r j => ⟨_, rfl, rfl⟩⟩
theorem fs_M_37 : FsR "VillageMailModel" 37 30 12 40 (fun i => 0) := ⟨by decide, 8, "VillageMailModel", T_M, 38, rfl, by decide, in_M, wa_at (i := 745) (by decide +kernel) rfl, fun K i r j => ⟨_, rfl, rfl⟩⟩
theorem fs_M_40 : FsR "VillageMailModel" 40 30 13 41 (fun i => 0) := ⟨by decide, 8, "VillageMailModel", T_M, 38, rfl, by decide, in_M, wa_at (i := 746) (by decide +kernel) rfl, fun K i r j => ⟨_, rfl, rfl⟩⟩
theorem fs_M_43 : FsR "VillageMailModel" 43 30 14 42 (fun i => 0) := ⟨by decide, 8, "VillageMailModel", T_M, 38, rfl, by decide, in_M, wa_at (i := 747) (by decide +kernel) rfl, fun K i r j => ⟨_, rfl, rfl⟩⟩
theorem fs_M_46 : FsR "VillageMailModel" 46 30 15 43 (fun i => 0) := ⟨by decide, 8, "VillageMailModel", T_M, 38, rfl, by decide, in_M, wa_at (i := 748) (by decide +kernel) rfl, fun K i r j => ⟨_, rfl, rfl⟩⟩
theorem fs_M_49 : FsR "VillageMailModel" 49 30 16 44 (fun i => 0) := ⟨by decide, 8, "VillageMailModel", T_M, 38, rfl, by decide, in_M, wa_at (i := 749) (by decide +kernel) rfl, fun K i r j => ⟨_, rfl, rfl⟩⟩
theorem fs_M_53 : FsR "VillageMailModel" 53 30 17 45 (fun i => 0) := ⟨by decide, 8, "VillageMailModel", T_M, 38, rfl, by decide, in_M, wa_at (i := 750) (by decide +kernel) rfl, fun K i r j => ⟨_, rfl, rfl⟩⟩
theorem fs_M_56 : FsR "VillageMailModel" 56 30 18 46 (fun i => 0) := ⟨by decide, 8, "VillageMailModel", T_M, 38, rfl, by decide, in_M, wa_at (i := 751) (by decide +kernel) rfl, fun K i r j => ⟨_, rfl, rfl⟩⟩
theorem fs_M_59 : FsR "VillageMailModel" 59 30 19 47 (fun i => 0) := ⟨by decide, 8, "VillageMailModel", T_M, 38, rfl, by decide, in_M, wa_at (i := 752) (by decide +kernel) rfl, fun K i r j => ⟨_, rfl, rfl⟩⟩
theorem fs_M_62 : FsR "VillageMailModel" 62 30 20 48 (fun i => 0) := ⟨by decide, 8, "VillageMailModel", T_M, 38, rfl, by decide, in_M, wa_at (i := 753) (by decide +kernel) rfl, fun K i r j => ⟨_, rfl, rfl⟩⟩
theorem fs_M_65 : FsR "VillageMailModel" 65 30 21 49 (fun i => 0) := ⟨by decide, 8, "VillageMailModel", T_M, 38, rfl, by decide, in_M, wa_at (i := 754) (by decide +kernel) rfl, fun K i r j => ⟨_, rfl, rfl⟩⟩
theorem fs_M_68 : FsR "VillageMailModel" 68 30 22 50 (fun i => 0) := ⟨by decide, 8, "VillageMailModel", T_M, 38, rfl, by decide, in_M, wa_at (i := 755) (by decide +kernel) rfl, fun K i r j => ⟨_, rfl, rfl⟩⟩
theorem fs_M_7 : FsR "VillageMailModel" 7 30 0 31 (fun i => 0) := ⟨by decide, 8, "VillageMailModel", T_M, 38, rfl, by decide, in_M, wa_at (i := 733) (by decide +kernel) rfl, fun K i r j => ⟨_, rfl, rfl⟩⟩
theorem fs_M_71 : FsR "VillageMailModel" 71 30 23 51 (fun i => 0) := ⟨by decide, 8, "VillageMailModel", T_M, 38, rfl, by decide, in_M, wa_at (i := 756) (by decide +kernel) rfl, fun K i r j => ⟨_, rfl, rfl⟩⟩
theorem fs_M_74 : FsR "VillageMailModel" 74 30 24 52 (fun i => 0) := ⟨by decide, 8, "VillageMailModel", T_M, 38, rfl, by decide, in_M, wa_at (i := 757) (by decide +kernel) rfl, fun K i r j => ⟨_, rfl, rfl⟩⟩
theorem fs_M_77 : FsR "VillageMailModel" 77 30 25 53 (fun i => 0) := ⟨by decide, 8, "VillageMailModel", T_M, 38, rfl, by decide, in_M, wa_at (i := 758) (by decide +kernel) rfl, fun K i r j => ⟨_, rfl, rfl⟩⟩
theorem fs_M_80 : FsR "VillageMailModel" 80 30 26 54 (fun i => 0) := ⟨by decide, 8, "VillageMailModel", T_M, 38, rfl, by decide, in_M, wa_at (i := 759) (by decide +kernel) rfl, fun K i r j => ⟨_, rfl, rfl⟩⟩
theorem fs_M_83 : FsR "VillageMailModel" 83 30 27 55 (fun i => 0) := ⟨by decide, 8, "VillageMailModel", T_M, 38, rfl, by decide, in_M, wa_at (i := 760) (by decide +kernel) rfl, fun K i r j => ⟨_, rfl, rfl⟩⟩
theorem fs_M_86 : FsR "VillageMailModel" 86 30 28 56 (fun i => 0) := ⟨by decide, 8, "VillageMailModel", T_M, 38, rfl, by decide, in_M, wa_at (i := 761) (by decide +kernel) rfl, fun K i r j => ⟨_, rfl, rfl⟩⟩
theorem fs_M_89 : FsR "VillageMailModel" 89 30 29 57 (fun i => 0) := ⟨by decide, 8, "VillageMailModel", T_M, 38, rfl, by decide, in_M, wa_at (i := 762) (by decide +kernel) rfl, fun K i r j => ⟨_, rfl, rfl⟩⟩
theorem fs_M_92 : FsR "VillageMailModel" 92 30 32 58 (fun i => 0) := ⟨by decide, 8, "VillageMailModel", T_M, 38, rfl, by decide, in_M, wa_at (i := 765) (by decide +kernel) rfl, fun K i r j => ⟨_, rfl, rfl⟩⟩
theorem fs_M_95 : FsR "VillageMailModel" 95 30 33 59 (fun i => 0) := ⟨by decide, 8, "VillageMailModel", T_M, 38, rfl, by decide, in_M, wa_at (i := 766) (by decide +kernel) rfl, fun K i r j => ⟨_, rfl, rfl⟩⟩
theorem fs_M_98 : FsR "VillageMailModel" 98 30 34 60 (fun i => 0) := ⟨by decide, 8, "VillageMailModel", T_M, 38, rfl, by decide, in_M, wa_at (i := 767) (by decide +kernel) rfl, fun K i r j => ⟨_, rfl, rfl⟩⟩
theorem fs_O_15 : FsI "VillageMail$Offers" 15 26 1 .int false := ⟨by decide, 3, "VillageMail$Offers", T_O, 2, ty_O, rfl, by decide, in_O, wa_at (i := 204) (by decide +kernel) rfl, fun K i r j => ⟨_, rfl, rfl, Nat.le_of_ble_eq_true rfl, fun v => rfl⟩, tk_O, nm_O, rfl, by decide +kernel⟩
theorem fs_O_9 : FsR "VillageMail$Offers" 9 26 0 27 (fun i => i) := ⟨by decide, 3, "VillageMail$Offers", T_O, 2, rfl, by decide, in_O, wa_at (i := 202) (by decide +kernel) rfl, fun K i r j => ⟨_, rfl, rfl⟩⟩
theorem fs_R_15 : FsR "VillageMail$Ride" 15 22 1 24 (fun i => i) := ⟨by decide, 4, "VillageMail$Ride", T_R, 3, rfl, by decide, in_R, wa_at (i := 186) (by decide +kernel) rfl, fun K i r j => ⟨_, rfl, rfl⟩⟩
theorem fs_R_18 : FsR "VillageMail$Ride" 18 22 2 25 (fun i => i) := ⟨by decide, 4, "VillageMail$Ride", T_R, 3, rfl, by decide, in_R, wa_at (i := 187) (by decide +kernel) rfl, fun K i r j => ⟨_, rfl, rfl⟩⟩
theorem fs_R_42 : FsI "VillageMail$Ride" 42 1 3 .int false := ⟨by decide, 6, "VillageMail$Timetable", T_T, 4, ty_T, rfl, by decide, in_T, wa_at (i := 42) (by decide +kernel) rfl, fun K i r j => ⟨_, rfl, rfl, Nat.le_of_ble_eq_true rfl, fun v => rfl⟩, tk_T, nm_T, rfl, by decide +kernel⟩
theorem fs_R_48 : FsR "VillageMail$Ride" 48 1 2 4 (fun i => i) := ⟨by decide, 6, "VillageMail$Timetable", T_T, 4, rfl, by decide, in_T, wa_at (i := 39) (by decide +kernel) rfl, fun K i r j => ⟨_, rfl, rfl⟩⟩
theorem fs_R_51 : FsR "VillageMail$Ride" 51 1 0 2 (fun i => i) := ⟨by decide, 6, "VillageMail$Timetable", T_T, 4, rfl, by decide, in_T, wa_at (i := 35) (by decide +kernel) rfl, fun K i r j => ⟨_, rfl, rfl⟩⟩
theorem fs_R_54 : FsR "VillageMail$Ride" 54 1 1 3 (fun i => i) := ⟨by decide, 6, "VillageMail$Timetable", T_T, 4, rfl, by decide, in_T, wa_at (i := 37) (by decide +kernel) rfl, fun K i r j => ⟨_, rfl, rfl⟩⟩
theorem fs_R_9 : FsR "VillageMail$Ride" 9 22 0 23 (fun i => i) := ⟨by decide, 4, "VillageMail$Ride", T_R, 3, rfl, by decide, in_R, wa_at (i := 184) (by decide +kernel) rfl, fun K i r j => ⟨_, rfl, rfl⟩⟩
theorem fs_S_15 : FsR "VillageMail$Store" 15 7 1 8 (fun i => i) := ⟨by decide, 5, "VillageMail$Store", T_S, 9, rfl, by decide, in_S, wa_at (i := 65) (by decide +kernel) rfl, fun K i r j => ⟨_, rfl, rfl⟩⟩
theorem fs_S_25 : FsR "VillageMail$Store" 25 7 2 9 (fun i => i) := ⟨by decide, 5, "VillageMail$Store", T_S, 9, rfl, by decide, in_S, wa_at (i := 67) (by decide +kernel) rfl, fun K i r j => ⟨_, rfl, rfl⟩⟩
theorem fs_S_28 : FsR "VillageMail$Store" 28 7 3 10 (fun i => i) := ⟨by decide, 5, "VillageMail$Store", T_S, 9, rfl, by decide, in_S, wa_at (i := 69) (by decide +kernel) rfl, fun K i r j => ⟨_, rfl, rfl⟩⟩
theorem fs_S_32 : FsR "VillageMail$Store" 32 7 4 11 (fun i => i) := ⟨by decide, 5, "VillageMail$Store", T_S, 9, rfl, by decide, in_S, wa_at (i := 71) (by decide +kernel) rfl, fun K i r j => ⟨_, rfl, rfl⟩⟩
theorem fs_S_35 : FsI "VillageMail$Store" 35 7 5 .int false := ⟨by decide, 5, "VillageMail$Store", T_S, 9, ty_S, rfl, by decide, in_S, wa_at (i := 73) (by decide +kernel) rfl, fun K i r j => ⟨_, rfl, rfl, Nat.le_of_ble_eq_true rfl, fun v => rfl⟩, tk_S, nm_S, rfl, by decide +kernel⟩
theorem fs_S_9 : FsI "VillageMail$Store" 9 7 0 .int true := ⟨by decide, 5, "VillageMail$Store", T_S, 9, ty_S, rfl, by decide, in_S, wa_at (i := 64) (by decide +kernel) rfl, fun K i r j => ⟨_, rfl, rfl, Nat.le_of_ble_eq_true rfl, fun v => rfl⟩, tk_S, nm_S, rfl, by decide +kernel⟩
theorem fs_T_15 : FsR "VillageMail$Timetable" 15 1 1 3 (fun i => i) := ⟨by decide, 6, "VillageMail$Timetable", T_T, 4, rfl, by decide, in_T, wa_at (i := 36) (by decide +kernel) rfl, fun K i r j => ⟨_, rfl, rfl⟩⟩
theorem fs_T_18 : FsR "VillageMail$Timetable" 18 1 2 4 (fun i => i) := ⟨by decide, 6, "VillageMail$Timetable", T_T, 4, rfl, by decide, in_T, wa_at (i := 38) (by decide +kernel) rfl, fun K i r j => ⟨_, rfl, rfl⟩⟩
theorem fs_T_21 : FsI "VillageMail$Timetable" 21 1 3 .int false := ⟨by decide, 6, "VillageMail$Timetable", T_T, 4, ty_T, rfl, by decide, in_T, wa_at (i := 40) (by decide +kernel) rfl, fun K i r j => ⟨_, rfl, rfl, Nat.le_of_ble_eq_true rfl, fun v => rfl⟩, tk_T, nm_T, rfl, by decide +kernel⟩
theorem fs_T_9 : FsR "VillageMail$Timetable" 9 1 0 2 (fun i => i) := ⟨by decide, 6, "VillageMail$Timetable", T_T, 4, rfl, by decide, in_T, wa_at (i := 34) (by decide +kernel) rfl, fun K i r j => ⟨_, rfl, rfl⟩⟩
theorem fs_X_100 : FsI "VillageMail" 100 0 3 .int false := ⟨by decide, 7, "VillageMail", T_X, 16, ty_X, rfl, by decide, in_X, wa_at (i := 214) (by decide +kernel) rfl, fun K i r j => ⟨_, rfl, rfl, Nat.le_of_ble_eq_true rfl, fun v => rfl⟩, tk_X, nm_X, rfl, by decide +kernel⟩
theorem fs_X_107 : FsI "VillageMail" 107 7 6 .int false := ⟨by decide, 5, "VillageMail$Store", T_S, 9, ty_S, rfl, by decide, in_S, wa_at (i := 74) (by decide +kernel) rfl, fun K i r j => ⟨_, rfl, rfl, Nat.le_of_ble_eq_true rfl, fun v => rfl⟩, tk_S, nm_S, rfl, by decide +kernel⟩
theorem fs_X_119 : FsR "VillageMail" 119 22 0 23 (fun i => i) := ⟨by decide, 4, "VillageMail$Ride", T_R, 3, rfl, by decide, in_R, wa_at (i := 185) (by decide +kernel) rfl, fun K i r j => ⟨_, rfl, rfl⟩⟩
theorem fs_X_12 : FsR "VillageMail" 12 0 1 1 (fun i => 7) := ⟨by decide, 7, "VillageMail", T_X, 16, rfl, by decide, in_X, wa_at (i := 212) (by decide +kernel) rfl, fun K i r j => ⟨_, rfl, rfl⟩⟩
theorem fs_X_127 : FsR "VillageMail" 127 13 0 14 (fun i => i) := ⟨by decide, 1, "VillageMail$Boxes", T_C, 2, rfl, by decide, in_C, wa_at (i := 129) (by decide +kernel) rfl, fun K i r j => ⟨_, rfl, rfl⟩⟩
theorem fs_X_131 : FsI "VillageMail" 131 16 3 .int false := ⟨by decide, 0, "VillageMail$Box", T_B, 4, ty_B, rfl, by decide, in_B, wa_at (i := 118) (by decide +kernel) rfl, fun K i r j => ⟨_, rfl, rfl, Nat.le_of_ble_eq_true rfl, fun v => rfl⟩, tk_B, nm_B, rfl, by decide +kernel⟩
theorem fs_X_142 : FsI "VillageMail" 142 16 1 .int false := ⟨by decide, 0, "VillageMail$Box", T_B, 4, ty_B, rfl, by decide, in_B, wa_at (i := 114) (by decide +kernel) rfl, fun K i r j => ⟨_, rfl, rfl, Nat.le_of_ble_eq_true rfl, fun v => rfl⟩, tk_B, nm_B, rfl, by decide +kernel⟩
theorem fs_X_143 : FsI "VillageMail" 143 16 2 .int false := ⟨by decide, 0, "VillageMail$Box", T_B, 4, ty_B, rfl, by decide, in_B, wa_at (i := 116) (by decide +kernel) rfl, fun K i r j => ⟨_, rfl, rfl, Nat.le_of_ble_eq_true rfl, fun v => rfl⟩, tk_B, nm_B, rfl, by decide +kernel⟩
theorem fs_X_150 : FsR "VillageMail" 150 16 0 17 (fun i => i) := ⟨by decide, 0, "VillageMail$Box", T_B, 4, rfl, by decide, in_B, wa_at (i := 112) (by decide +kernel) rfl, fun K i r j => ⟨_, rfl, rfl⟩⟩
theorem fs_X_152 : FsI "VillageMail" 152 19 6 .int false := ⟨by decide, 2, "VillageMail$Letter", T_L, 11, ty_L, rfl, by decide, in_L, wa_at (i := 149) (by decide +kernel) rfl, fun K i r j => ⟨_, rfl, rfl, Nat.le_of_ble_eq_true rfl, fun v => rfl⟩, tk_L, nm_L, rfl, by decide +kernel⟩
theorem fs_X_155 : FsR "VillageMail" 155 19 10 20 (fun i => i) := ⟨by decide, 2, "VillageMail$Letter", T_L, 11, rfl, by decide, in_L, wa_at (i := 154) (by decide +kernel) rfl, fun K i r j => ⟨_, rfl, rfl⟩⟩
theorem fs_X_16 : FsR "VillageMail" 16 0 2 5 (fun i => 0) := ⟨by decide, 7, "VillageMail", T_X, 16, rfl, by decide, in_X, wa_at (i := 213) (by decide +kernel) rfl, fun K i r j => ⟨_, rfl, rfl⟩⟩
theorem fs_X_164 : FsI "VillageMail" 164 0 9 .int false := ⟨by decide, 7, "VillageMail", T_X, 16, ty_X, rfl, by decide, in_X, wa_at (i := 220) (by decide +kernel) rfl, fun K i r j => ⟨_, rfl, rfl, Nat.le_of_ble_eq_true rfl, fun v => rfl⟩, tk_X, nm_X, rfl, by decide +kernel⟩
theorem fs_X_171 : FsI "VillageMail" 171 0 7 .int false := ⟨by decide, 7, "VillageMail", T_X, 16, ty_X, rfl, by decide, in_X, wa_at (i := 218) (by decide +kernel) rfl, fun K i r j => ⟨_, rfl, rfl, Nat.le_of_ble_eq_true rfl, fun v => rfl⟩, tk_X, nm_X, rfl, by decide +kernel⟩
theorem fs_X_182 : FsI "VillageMail" 182 19 0 .int false := ⟨by decide, 2, "VillageMail$Letter", T_L, 11, ty_L, rfl, by decide, in_L, wa_at (i := 143) (by decide +kernel) rfl, fun K i r j => ⟨_, rfl, rfl, Nat.le_of_ble_eq_true rfl, fun v => rfl⟩, tk_L, nm_L, rfl, by decide +kernel⟩
theorem fs_X_185 : FsI "VillageMail" 185 19 1 .int false := ⟨by decide, 2, "VillageMail$Letter", T_L, 11, ty_L, rfl, by decide, in_L, wa_at (i := 144) (by decide +kernel) rfl, fun K i r j => ⟨_, rfl, rfl, Nat.le_of_ble_eq_true rfl, fun v => rfl⟩, tk_L, nm_L, rfl, by decide +kernel⟩
theorem fs_X_188 : FsI "VillageMail" 188 19 2 .int false := ⟨by decide, 2, "VillageMail$Letter", T_L, 11, ty_L, rfl, by decide, in_L, wa_at (i := 145) (by decide +kernel) rfl, fun K i r j => ⟨_, rfl, rfl, Nat.le_of_ble_eq_true rfl, fun v => rfl⟩, tk_L, nm_L, rfl, by decide +kernel⟩
theorem fs_X_191 : FsI "VillageMail" 191 19 3 .int false := ⟨by decide, 2, "VillageMail$Letter", T_L, 11, ty_L, rfl, by decide, in_L, wa_at (i := 146) (by decide +kernel) rfl, fun K i r j => ⟨_, rfl, rfl, Nat.le_of_ble_eq_true rfl, fun v => rfl⟩, tk_L, nm_L, rfl, by decide +kernel⟩
theorem fs_X_194 : FsI "VillageMail" 194 0 0 .int false := ⟨by decide, 7, "VillageMail", T_X, 16, ty_X, rfl, by decide, in_X, wa_at (i := 211) (by decide +kernel) rfl, fun K i r j => ⟨_, rfl, rfl, Nat.le_of_ble_eq_true rfl, fun v => rfl⟩, tk_X, nm_X, rfl, by decide +kernel⟩
theorem fs_X_197 : FsI "VillageMail" 197 19 4 .int false := ⟨by decide, 2, "VillageMail$Letter", T_L, 11, ty_L, rfl, by decide, in_L, wa_at (i := 147) (by decide +kernel) rfl, fun K i r j => ⟨_, rfl, rfl, Nat.le_of_ble_eq_true rfl, fun v => rfl⟩, tk_L, nm_L, rfl, by decide +kernel⟩
theorem fs_X_200 : FsI "VillageMail" 200 19 5 .int false := ⟨by decide, 2, "VillageMail$Letter", T_L, 11, ty_L, rfl, by decide, in_L, wa_at (i := 148) (by decide +kernel) rfl, fun K i r j => ⟨_, rfl, rfl, Nat.le_of_ble_eq_true rfl, fun v => rfl⟩, tk_L, nm_L, rfl, by decide +kernel⟩
theorem fs_X_207 : FsI "VillageMail" 207 19 7 .int false := ⟨by decide, 2, "VillageMail$Letter", T_L, 11, ty_L, rfl, by decide, in_L, wa_at (i := 150) (by decide +kernel) rfl, fun K i r j => ⟨_, rfl, rfl, Nat.le_of_ble_eq_true rfl, fun v => rfl⟩, tk_L, nm_L, rfl, by decide +kernel⟩
theorem fs_X_22 : FsR "VillageMail" 22 0 4 6 (fun i => 0) := ⟨by decide, 7, "VillageMail", T_X, 16, rfl, by decide, in_X, wa_at (i := 215) (by decide +kernel) rfl, fun K i r j => ⟨_, rfl, rfl⟩⟩
theorem fs_X_227 : FsR "VillageMail" 227 7 4 11 (fun i => i) := ⟨by decide, 5, "VillageMail$Store", T_S, 9, rfl, by decide, in_S, wa_at (i := 72) (by decide +kernel) rfl, fun K i r j => ⟨_, rfl, rfl⟩⟩
theorem fs_X_230 : FsI "VillageMail" 230 19 9 .boolean false := ⟨by decide, 2, "VillageMail$Letter", T_L, 11, ty_L, rfl, by decide, in_L, wa_at (i := 152) (by decide +kernel) rfl, fun K i r j => ⟨_, rfl, rfl, Nat.le_of_ble_eq_true rfl, fun v => rfl⟩, tk_L, nm_L, rfl, by decide +kernel⟩
theorem fs_X_240 : FsI "VillageMail" 240 19 8 .boolean false := ⟨by decide, 2, "VillageMail$Letter", T_L, 11, ty_L, rfl, by decide, in_L, wa_at (i := 151) (by decide +kernel) rfl, fun K i r j => ⟨_, rfl, rfl, Nat.le_of_ble_eq_true rfl, fun v => rfl⟩, tk_L, nm_L, rfl, by decide +kernel⟩
theorem fs_X_247 : FsI "VillageMail" 247 7 7 .int false := ⟨by decide, 5, "VillageMail$Store", T_S, 9, ty_S, rfl, by decide, in_S, wa_at (i := 75) (by decide +kernel) rfl, fun K i r j => ⟨_, rfl, rfl, Nat.le_of_ble_eq_true rfl, fun v => rfl⟩, tk_S, nm_S, rfl, by decide +kernel⟩
theorem fs_X_253 : FsR "VillageMail" 253 7 3 10 (fun i => i) := ⟨by decide, 5, "VillageMail$Store", T_S, 9, rfl, by decide, in_S, wa_at (i := 70) (by decide +kernel) rfl, fun K i r j => ⟨_, rfl, rfl⟩⟩
theorem fs_X_272 : FsI "VillageMail" 272 0 14 .int false := ⟨by decide, 7, "VillageMail", T_X, 16, ty_X, rfl, by decide, in_X, wa_at (i := 225) (by decide +kernel) rfl, fun K i r j => ⟨_, rfl, rfl, Nat.le_of_ble_eq_true rfl, fun v => rfl⟩, tk_X, nm_X, rfl, by decide +kernel⟩
theorem fs_X_275 : FsI "VillageMail" 275 0 15 .int false := ⟨by decide, 7, "VillageMail", T_X, 16, ty_X, rfl, by decide, in_X, wa_at (i := 226) (by decide +kernel) rfl, fun K i r j => ⟨_, rfl, rfl, Nat.le_of_ble_eq_true rfl, fun v => rfl⟩, tk_X, nm_X, rfl, by decide +kernel⟩
theorem fs_X_300 : FsR "VillageMail" 300 7 2 9 (fun i => i) := ⟨by decide, 5, "VillageMail$Store", T_S, 9, rfl, by decide, in_S, wa_at (i := 68) (by decide +kernel) rfl, fun K i r j => ⟨_, rfl, rfl⟩⟩
theorem fs_X_31 : FsR "VillageMail" 31 0 5 12 (fun i => 0) := ⟨by decide, 7, "VillageMail", T_X, 16, rfl, by decide, in_X, wa_at (i := 216) (by decide +kernel) rfl, fun K i r j => ⟨_, rfl, rfl⟩⟩
theorem fs_X_312 : FsI "VillageMail" 312 26 1 .int false := ⟨by decide, 3, "VillageMail$Offers", T_O, 2, ty_O, rfl, by decide, in_O, wa_at (i := 205) (by decide +kernel) rfl, fun K i r j => ⟨_, rfl, rfl, Nat.le_of_ble_eq_true rfl, fun v => rfl⟩, tk_O, nm_O, rfl, by decide +kernel⟩
theorem fs_X_322 : FsR "VillageMail" 322 26 0 27 (fun i => i) := ⟨by decide, 3, "VillageMail$Offers", T_O, 2, rfl, by decide, in_O, wa_at (i := 203) (by decide +kernel) rfl, fun K i r j => ⟨_, rfl, rfl⟩⟩
theorem fs_X_329 : FsI "VillageMail" 329 7 8 .int false := ⟨by decide, 5, "VillageMail$Store", T_S, 9, ty_S, rfl, by decide, in_S, wa_at (i := 76) (by decide +kernel) rfl, fun K i r j => ⟨_, rfl, rfl, Nat.le_of_ble_eq_true rfl, fun v => rfl⟩, tk_S, nm_S, rfl, by decide +kernel⟩
theorem fs_X_332 : FsR "VillageMail" 332 7 1 8 (fun i => i) := ⟨by decide, 5, "VillageMail$Store", T_S, 9, rfl, by decide, in_S, wa_at (i := 66) (by decide +kernel) rfl, fun K i r j => ⟨_, rfl, rfl⟩⟩
theorem fs_X_38 : FsR "VillageMail" 38 0 6 18 (fun i => 0) := ⟨by decide, 7, "VillageMail", T_X, 16, rfl, by decide, in_X, wa_at (i := 217) (by decide +kernel) rfl, fun K i r j => ⟨_, rfl, rfl⟩⟩
theorem fs_X_43 : FsR "VillageMail" 43 0 8 21 (fun i => 0) := ⟨by decide, 7, "VillageMail", T_X, 16, rfl, by decide, in_X, wa_at (i := 219) (by decide +kernel) rfl, fun K i r j => ⟨_, rfl, rfl⟩⟩
theorem fs_X_50 : FsR "VillageMail" 50 0 10 22 (fun i => 0) := ⟨by decide, 7, "VillageMail", T_X, 16, rfl, by decide, in_X, wa_at (i := 221) (by decide +kernel) rfl, fun K i r j => ⟨_, rfl, rfl⟩⟩
theorem fs_X_54 : FsR "VillageMail" 54 0 11 22 (fun i => 1) := ⟨by decide, 7, "VillageMail", T_X, 16, rfl, by decide, in_X, wa_at (i := 222) (by decide +kernel) rfl, fun K i r j => ⟨_, rfl, rfl⟩⟩
theorem fs_X_60 : FsR "VillageMail" 60 0 12 26 (fun i => 0) := ⟨by decide, 7, "VillageMail", T_X, 16, rfl, by decide, in_X, wa_at (i := 223) (by decide +kernel) rfl, fun K i r j => ⟨_, rfl, rfl⟩⟩
theorem fs_X_64 : FsR "VillageMail" 64 0 13 26 (fun i => 1) := ⟨by decide, 7, "VillageMail", T_X, 16, rfl, by decide, in_X, wa_at (i := 224) (by decide +kernel) rfl, fun K i r j => ⟨_, rfl, rfl⟩⟩
theorem fs_X_86 : FsI "VillageMail" 86 1 3 .int false := ⟨by decide, 6, "VillageMail$Timetable", T_T, 4, ty_T, rfl, by decide, in_T, wa_at (i := 41) (by decide +kernel) rfl, fun K i r j => ⟨_, rfl, rfl, Nat.le_of_ble_eq_true rfl, fun v => rfl⟩, tk_T, nm_T, rfl, by decide +kernel⟩
end

section
-- ===== PART A: goes FIRST, ahead of the names: the tables' words, and 'selects' of the private methods out of them =====
/-- a private method of a class that the tables say can be made, by its rows of tables_1 -/
def lw_okq (q : MethodName × Nat) : Prop := (q.1.cls ≠ "java/lang/invoke/MethodHandle" ∧ q.1.cls ≠ "java/lang/invoke/VarHandle") ∧ Cond.instantiable q.1.cls q.2 ∈ tables_1 ∧ Cond.privateMethod q.1 ∈ tables_1 ∧ Cond.instanceMethod q.1 ∈ tables_1
theorem lw_p0 : lw_okq (⟨"java/lang/Throwable", "fillInStackTrace", "(I)Ljava/lang/Throwable;"⟩, 6) := ⟨⟨by decide +kernel, by decide +kernel⟩, List.mem_of_getElem? (i := 345) (by decide +kernel), List.mem_of_getElem? (i := 343) (by decide +kernel), List.mem_of_getElem? (i := 344) (by decide +kernel)⟩
theorem lw_p1 : lw_okq (⟨"VillageMail", "lookAtAllOf", "(I)V"⟩, 16) := ⟨⟨by decide +kernel, by decide +kernel⟩, List.mem_of_getElem? (i := 21) (by decide +kernel), List.mem_of_getElem? (i := 410) (by decide +kernel), List.mem_of_getElem? (i := 411) (by decide +kernel)⟩
theorem lw_p2 : lw_okq (⟨"VillageMail", "lookAt", "(I)V"⟩, 16) := ⟨⟨by decide +kernel, by decide +kernel⟩, List.mem_of_getElem? (i := 21) (by decide +kernel), List.mem_of_getElem? (i := 414) (by decide +kernel), List.mem_of_getElem? (i := 415) (by decide +kernel)⟩
theorem lw_p3 : lw_okq (⟨"VillageMail", "arrival", "(IIII)I"⟩, 16) := ⟨⟨by decide +kernel, by decide +kernel⟩, List.mem_of_getElem? (i := 21) (by decide +kernel), List.mem_of_getElem? (i := 492) (by decide +kernel), List.mem_of_getElem? (i := 493) (by decide +kernel)⟩
theorem lw_p4 : lw_okq (⟨"VillageMail", "handOverText", "(LVillageMail$Store;I)V"⟩, 16) := ⟨⟨by decide +kernel, by decide +kernel⟩, List.mem_of_getElem? (i := 21) (by decide +kernel), List.mem_of_getElem? (i := 518) (by decide +kernel), List.mem_of_getElem? (i := 519) (by decide +kernel)⟩
theorem lw_p5 : lw_okq (⟨"VillageMail", "expireWhatIsDue", "()V"⟩, 16) := ⟨⟨by decide +kernel, by decide +kernel⟩, List.mem_of_getElem? (i := 21) (by decide +kernel), List.mem_of_getElem? (i := 536) (by decide +kernel), List.mem_of_getElem? (i := 537) (by decide +kernel)⟩
theorem lw_p6 : lw_okq (⟨"VillageMail", "dropCopies", "(IZ)V"⟩, 16) := ⟨⟨by decide +kernel, by decide +kernel⟩, List.mem_of_getElem? (i := 21) (by decide +kernel), List.mem_of_getElem? (i := 540) (by decide +kernel), List.mem_of_getElem? (i := 541) (by decide +kernel)⟩
theorem lw_p7 : lw_okq (⟨"VillageMail", "hold", "(III)I"⟩, 16) := ⟨⟨by decide +kernel, by decide +kernel⟩, List.mem_of_getElem? (i := 21) (by decide +kernel), List.mem_of_getElem? (i := 552) (by decide +kernel), List.mem_of_getElem? (i := 553) (by decide +kernel)⟩
theorem lw_p8 : lw_okq (⟨"VillageMail", "shareNews", "(LVillageMail$Store;LVillageMail$Store;)V"⟩, 16) := ⟨⟨by decide +kernel, by decide +kernel⟩, List.mem_of_getElem? (i := 21) (by decide +kernel), List.mem_of_getElem? (i := 562) (by decide +kernel), List.mem_of_getElem? (i := 563) (by decide +kernel)⟩
theorem lw_p9 : lw_okq (⟨"VillageMail", "settleOffers", "(II)V"⟩, 16) := ⟨⟨by decide +kernel, by decide +kernel⟩, List.mem_of_getElem? (i := 21) (by decide +kernel), List.mem_of_getElem? (i := 573) (by decide +kernel), List.mem_of_getElem? (i := 574) (by decide +kernel)⟩
theorem lw_p10 : lw_okq (⟨"VillageMail", "offerPiecesOf", "(III)V"⟩, 16) := ⟨⟨by decide +kernel, by decide +kernel⟩, List.mem_of_getElem? (i := 21) (by decide +kernel), List.mem_of_getElem? (i := 581) (by decide +kernel), List.mem_of_getElem? (i := 582) (by decide +kernel)⟩
theorem lw_p11 : lw_okq (⟨"VillageMail", "moveOffered", "(LVillageMail$Offers;III)I"⟩, 16) := ⟨⟨by decide +kernel, by decide +kernel⟩, List.mem_of_getElem? (i := 21) (by decide +kernel), List.mem_of_getElem? (i := 590) (by decide +kernel), List.mem_of_getElem? (i := 591) (by decide +kernel)⟩
theorem lw_p12 : lw_okq (⟨"VillageMailModel", "stopAt", "(II)I"⟩, 38) := ⟨⟨by decide +kernel, by decide +kernel⟩, List.mem_of_getElem? (i := 728) (by decide +kernel), List.mem_of_getElem? (i := 866) (by decide +kernel), List.mem_of_getElem? (i := 867) (by decide +kernel)⟩
theorem lw_p13 : lw_okq (⟨"VillageMailModel", "copyStop", "(II)V"⟩, 38) := ⟨⟨by decide +kernel, by decide +kernel⟩, List.mem_of_getElem? (i := 728) (by decide +kernel), List.mem_of_getElem? (i := 874) (by decide +kernel), List.mem_of_getElem? (i := 875) (by decide +kernel)⟩
theorem lw_p14 : lw_okq (⟨"VillageMailModel", "arrival", "(IIII)I"⟩, 38) := ⟨⟨by decide +kernel, by decide +kernel⟩, List.mem_of_getElem? (i := 728) (by decide +kernel), List.mem_of_getElem? (i := 887) (by decide +kernel), List.mem_of_getElem? (i := 888) (by decide +kernel)⟩
theorem lw_p15 : lw_okq (⟨"VillageMailModel", "nextStop", "(II)I"⟩, 38) := ⟨⟨by decide +kernel, by decide +kernel⟩, List.mem_of_getElem? (i := 728) (by decide +kernel), List.mem_of_getElem? (i := 892) (by decide +kernel), List.mem_of_getElem? (i := 893) (by decide +kernel)⟩
def lw_privs_1 : List (MethodName × Nat) := [(⟨"java/lang/Throwable", "fillInStackTrace", "(I)Ljava/lang/Throwable;"⟩, 6), (⟨"VillageMail", "lookAtAllOf", "(I)V"⟩, 16), (⟨"VillageMail", "lookAt", "(I)V"⟩, 16), (⟨"VillageMail", "arrival", "(IIII)I"⟩, 16), (⟨"VillageMail", "handOverText", "(LVillageMail$Store;I)V"⟩, 16), (⟨"VillageMail", "expireWhatIsDue", "()V"⟩, 16), (⟨"VillageMail", "dropCopies", "(IZ)V"⟩, 16), (⟨"VillageMail", "hold", "(III)I"⟩, 16), (⟨"VillageMail", "shareNews", "(LVillageMail$Store;LVillageMail$Store;)V"⟩, 16), (⟨"VillageMail", "settleOffers", "(II)V"⟩, 16), (⟨"VillageMail", "offerPiecesOf", "(III)V"⟩, 16), (⟨"VillageMail", "moveOffered", "(LVillageMail$Offers;III)I"⟩, 16), (⟨"VillageMailModel", "stopAt", "(II)I"⟩, 38), (⟨"VillageMailModel", "copyStop", "(II)V"⟩, 38), (⟨"VillageMailModel", "arrival", "(IIII)I"⟩, 38), (⟨"VillageMailModel", "nextStop", "(II)I"⟩, 38)]
theorem lw_r1 : ∀ q ∈ lw_privs_1, lw_okq q := List.forall_mem_cons.mpr ⟨lw_p0, List.forall_mem_cons.mpr ⟨lw_p1, List.forall_mem_cons.mpr ⟨lw_p2, List.forall_mem_cons.mpr ⟨lw_p3, List.forall_mem_cons.mpr ⟨lw_p4, List.forall_mem_cons.mpr ⟨lw_p5, List.forall_mem_cons.mpr ⟨lw_p6, List.forall_mem_cons.mpr ⟨lw_p7, List.forall_mem_cons.mpr ⟨lw_p8, List.forall_mem_cons.mpr ⟨lw_p9, List.forall_mem_cons.mpr ⟨lw_p10, List.forall_mem_cons.mpr ⟨lw_p11, List.forall_mem_cons.mpr ⟨lw_p12, List.forall_mem_cons.mpr ⟨lw_p13, List.forall_mem_cons.mpr ⟨lw_p14, List.forall_mem_cons.mpr ⟨lw_p15, fun _ h => absurd h List.not_mem_nil⟩⟩⟩⟩⟩⟩⟩⟩⟩⟩⟩⟩⟩⟩⟩⟩
theorem lw_p16 : lw_okq (⟨"VillageMailModel", "passes", "(III)Z"⟩, 38) := ⟨⟨by decide +kernel, by decide +kernel⟩, List.mem_of_getElem? (i := 728) (by decide +kernel), List.mem_of_getElem? (i := 896) (by decide +kernel), List.mem_of_getElem? (i := 897) (by decide +kernel)⟩
theorem lw_p17 : lw_okq (⟨"VillageMailModel", "lookAll", "(I)V"⟩, 38) := ⟨⟨by decide +kernel, by decide +kernel⟩, List.mem_of_getElem? (i := 728) (by decide +kernel), List.mem_of_getElem? (i := 904) (by decide +kernel), List.mem_of_getElem? (i := 905) (by decide +kernel)⟩
theorem lw_p18 : lw_okq (⟨"VillageMailModel", "lookAt", "(I)V"⟩, 38) := ⟨⟨by decide +kernel, by decide +kernel⟩, List.mem_of_getElem? (i := 728) (by decide +kernel), List.mem_of_getElem? (i := 908) (by decide +kernel), List.mem_of_getElem? (i := 909) (by decide +kernel)⟩
theorem lw_p19 : lw_okq (⟨"VillageMailModel", "complete", "(I)Z"⟩, 38) := ⟨⟨by decide +kernel, by decide +kernel⟩, List.mem_of_getElem? (i := 728) (by decide +kernel), List.mem_of_getElem? (i := 912) (by decide +kernel), List.mem_of_getElem? (i := 913) (by decide +kernel)⟩
theorem lw_p20 : lw_okq (⟨"VillageMailModel", "pieces", "(I)I"⟩, 38) := ⟨⟨by decide +kernel, by decide +kernel⟩, List.mem_of_getElem? (i := 728) (by decide +kernel), List.mem_of_getElem? (i := 916) (by decide +kernel), List.mem_of_getElem? (i := 917) (by decide +kernel)⟩
theorem lw_p21 : lw_okq (⟨"VillageMailModel", "byteOf", "(III)I"⟩, 38) := ⟨⟨by decide +kernel, by decide +kernel⟩, List.mem_of_getElem? (i := 728) (by decide +kernel), List.mem_of_getElem? (i := 926) (by decide +kernel), List.mem_of_getElem? (i := 927) (by decide +kernel)⟩
theorem lw_p22 : lw_okq (⟨"VillageMailModel", "learn", "(III)V"⟩, 38) := ⟨⟨by decide +kernel, by decide +kernel⟩, List.mem_of_getElem? (i := 728) (by decide +kernel), List.mem_of_getElem? (i := 930) (by decide +kernel), List.mem_of_getElem? (i := 931) (by decide +kernel)⟩
theorem lw_p23 : lw_okq (⟨"VillageMailModel", "isFor", "(II)Z"⟩, 38) := ⟨⟨by decide +kernel, by decide +kernel⟩, List.mem_of_getElem? (i := 728) (by decide +kernel), List.mem_of_getElem? (i := 934) (by decide +kernel), List.mem_of_getElem? (i := 935) (by decide +kernel)⟩
theorem lw_p24 : lw_okq (⟨"VillageMailModel", "bytesIn", "(I)I"⟩, 38) := ⟨⟨by decide +kernel, by decide +kernel⟩, List.mem_of_getElem? (i := 728) (by decide +kernel), List.mem_of_getElem? (i := 938) (by decide +kernel), List.mem_of_getElem? (i := 939) (by decide +kernel)⟩
theorem lw_p25 : lw_okq (⟨"VillageMailModel", "room", "(I)I"⟩, 38) := ⟨⟨by decide +kernel, by decide +kernel⟩, List.mem_of_getElem? (i := 728) (by decide +kernel), List.mem_of_getElem? (i := 954) (by decide +kernel), List.mem_of_getElem? (i := 955) (by decide +kernel)⟩
theorem lw_p26 : lw_okq (⟨"VillageMailModel", "expire", "(I)V"⟩, 38) := ⟨⟨by decide +kernel, by decide +kernel⟩, List.mem_of_getElem? (i := 728) (by decide +kernel), List.mem_of_getElem? (i := 962) (by decide +kernel), List.mem_of_getElem? (i := 963) (by decide +kernel)⟩
theorem lw_p27 : lw_okq (⟨"VillageMailModel", "meeting", "(III)I"⟩, 38) := ⟨⟨by decide +kernel, by decide +kernel⟩, List.mem_of_getElem? (i := 728) (by decide +kernel), List.mem_of_getElem? (i := 970) (by decide +kernel), List.mem_of_getElem? (i := 971) (by decide +kernel)⟩
theorem lw_p28 : lw_okq (⟨"VillageMailModel", "exchangeNews", "(II)V"⟩, 38) := ⟨⟨by decide +kernel, by decide +kernel⟩, List.mem_of_getElem? (i := 728) (by decide +kernel), List.mem_of_getElem? (i := 974) (by decide +kernel), List.mem_of_getElem? (i := 975) (by decide +kernel)⟩
theorem lw_p29 : lw_okq (⟨"VillageMailModel", "hear", "(II)V"⟩, 38) := ⟨⟨by decide +kernel, by decide +kernel⟩, List.mem_of_getElem? (i := 728) (by decide +kernel), List.mem_of_getElem? (i := 978) (by decide +kernel), List.mem_of_getElem? (i := 979) (by decide +kernel)⟩
theorem lw_p30 : lw_okq (⟨"VillageMailModel", "settle", "(II)V"⟩, 38) := ⟨⟨by decide +kernel, by decide +kernel⟩, List.mem_of_getElem? (i := 728) (by decide +kernel), List.mem_of_getElem? (i := 982) (by decide +kernel), List.mem_of_getElem? (i := 983) (by decide +kernel)⟩
theorem lw_p31 : lw_okq (⟨"VillageMailModel", "give", "(IIII)I"⟩, 38) := ⟨⟨by decide +kernel, by decide +kernel⟩, List.mem_of_getElem? (i := 728) (by decide +kernel), List.mem_of_getElem? (i := 989) (by decide +kernel), List.mem_of_getElem? (i := 990) (by decide +kernel)⟩
def lw_privs_2 : List (MethodName × Nat) := [(⟨"VillageMailModel", "passes", "(III)Z"⟩, 38), (⟨"VillageMailModel", "lookAll", "(I)V"⟩, 38), (⟨"VillageMailModel", "lookAt", "(I)V"⟩, 38), (⟨"VillageMailModel", "complete", "(I)Z"⟩, 38), (⟨"VillageMailModel", "pieces", "(I)I"⟩, 38), (⟨"VillageMailModel", "byteOf", "(III)I"⟩, 38), (⟨"VillageMailModel", "learn", "(III)V"⟩, 38), (⟨"VillageMailModel", "isFor", "(II)Z"⟩, 38), (⟨"VillageMailModel", "bytesIn", "(I)I"⟩, 38), (⟨"VillageMailModel", "room", "(I)I"⟩, 38), (⟨"VillageMailModel", "expire", "(I)V"⟩, 38), (⟨"VillageMailModel", "meeting", "(III)I"⟩, 38), (⟨"VillageMailModel", "exchangeNews", "(II)V"⟩, 38), (⟨"VillageMailModel", "hear", "(II)V"⟩, 38), (⟨"VillageMailModel", "settle", "(II)V"⟩, 38), (⟨"VillageMailModel", "give", "(IIII)I"⟩, 38)]
theorem lw_r2 : ∀ q ∈ lw_privs_2, lw_okq q := List.forall_mem_cons.mpr ⟨lw_p16, List.forall_mem_cons.mpr ⟨lw_p17, List.forall_mem_cons.mpr ⟨lw_p18, List.forall_mem_cons.mpr ⟨lw_p19, List.forall_mem_cons.mpr ⟨lw_p20, List.forall_mem_cons.mpr ⟨lw_p21, List.forall_mem_cons.mpr ⟨lw_p22, List.forall_mem_cons.mpr ⟨lw_p23, List.forall_mem_cons.mpr ⟨lw_p24, List.forall_mem_cons.mpr ⟨lw_p25, List.forall_mem_cons.mpr ⟨lw_p26, List.forall_mem_cons.mpr ⟨lw_p27, List.forall_mem_cons.mpr ⟨lw_p28, List.forall_mem_cons.mpr ⟨lw_p29, List.forall_mem_cons.mpr ⟨lw_p30, List.forall_mem_cons.mpr ⟨lw_p31, fun _ h => absurd h List.not_mem_nil⟩⟩⟩⟩⟩⟩⟩⟩⟩⟩⟩⟩⟩⟩⟩⟩
theorem lw_p32 : lw_okq (⟨"VillageMailModel", "move", "(IIII)Z"⟩, 38) := ⟨⟨by decide +kernel, by decide +kernel⟩, List.mem_of_getElem? (i := 728) (by decide +kernel), List.mem_of_getElem? (i := 993) (by decide +kernel), List.mem_of_getElem? (i := 994) (by decide +kernel)⟩
theorem lw_p33 : lw_okq (⟨"VillageMailModel", "isLetter", "(I)Z"⟩, 38) := ⟨⟨by decide +kernel, by decide +kernel⟩, List.mem_of_getElem? (i := 728) (by decide +kernel), List.mem_of_getElem? (i := 1009) (by decide +kernel), List.mem_of_getElem? (i := 1010) (by decide +kernel)⟩
def lw_privs_3 : List (MethodName × Nat) := [(⟨"VillageMailModel", "move", "(IIII)Z"⟩, 38), (⟨"VillageMailModel", "isLetter", "(I)Z"⟩, 38)]
theorem lw_r3 : ∀ q ∈ lw_privs_3, lw_okq q := List.forall_mem_cons.mpr ⟨lw_p32, List.forall_mem_cons.mpr ⟨lw_p33, fun _ h => absurd h List.not_mem_nil⟩⟩
def lw_privs : List (MethodName × Nat) := lw_privs_1 ++ (lw_privs_2 ++ (lw_privs_3))
def lw_tbl : List Cond := k2_sels lw_privs ++ tables_1
theorem lw_privs_ok : ∀ q ∈ lw_privs, lw_okq q := by
  show ∀ q ∈ lw_privs_1 ++ (lw_privs_2 ++ (lw_privs_3)), lw_okq q
  exact List.forall_mem_append.mpr ⟨lw_r1, List.forall_mem_append.mpr ⟨lw_r2, lw_r3⟩⟩
-- the words that every method takes: those of the tables that no run moves
def wAll : List Cond := lw_tbl.filter goodWord
theorem wa_at {w : Cond} {i : Nat} (h : tables_1[i]? = some w) (g : goodWord w = true) : w ∈ wAll := List.mem_filter.mpr ⟨List.mem_append_right _ (List.mem_of_getElem? h), g⟩
theorem wa_all {ws : List Cond} (ps : List Nat) (hp : ws = ps.filterMap (fun i => tables_1[i]?)) (hg : ws.all goodWord = true) : ∀ w ∈ ws, w ∈ wAll := by
  intro w hw
  have h1 := List.all_eq_true.mp hg w hw
  rw [hp] at hw
  obtain ⟨i, -, hi⟩ := List.mem_filterMap.mp hw
  exact wa_at hi h1
theorem wa_sel {y : MethodName} {n : Nat} (h : (y, n) ∈ lw_privs) : Cond.selects y.cls y y ∈ wAll := by
  refine List.mem_filter.mpr ⟨List.mem_append_left _ ?_, rfl⟩
  exact List.mem_map.mpr ⟨(y, n), h, rfl⟩
theorem wa_good {w : Cond} (h : w ∈ wAll) : goodWord w = true := (List.mem_filter.mp h).2
theorem gd_of {ws : List Cond} (h : ∀ w ∈ ws, w ∈ wAll) : GoodIn wAll ws := fun w hw => ⟨h w hw, good_of_word (wa_good (h w hw))⟩
theorem gd_v {own : String} {idx : Nat} {y : MethodName} {b : ByteArray} {mL : Nat} {rt : Option FieldType} (h1 : Cond.methodLink own idx y ∈ wAll) (h2 : Cond.instanceMethod y ∈ wAll) (h3 : Cond.selects y.cls y y ∈ wAll) (h4 : Cond.initialized y.cls ∈ wAll) (h5 : Cond.code y b mL rt ∈ wAll) : GoodIn wAll (wsV own idx y.cls y (.code y b mL rt :: wAll)) := by
  refine gd_of fun w hw => ?_
  unfold wsV at hw
  simp only [List.cons_append, List.nil_append, List.mem_cons] at hw
  rcases hw with rfl | rfl | rfl | rfl | rfl | hw
  · exact h1
  · exact h2
  · exact h3
  · exact h4
  · exact h5
  · exact hw
theorem gd_s {own : String} {idx : Nat} {y : MethodName} {b : ByteArray} {mL : Nat} {rt : Option FieldType} (h1 : Cond.methodLink own idx y ∈ wAll) (h2 : Cond.static y ∈ wAll) (h4 : Cond.initialized y.cls ∈ wAll) (h5 : Cond.code y b mL rt ∈ wAll) : GoodIn wAll (va_wsS own idx y (.code y b mL rt :: wAll)) := by
  refine gd_of fun w hw => ?_
  unfold va_wsS at hw
  simp only [List.cons_append, List.nil_append, List.mem_cons] at hw
  rcases hw with rfl | rfl | rfl | rfl | hw
  · exact h1
  · exact h2
  · exact h4
  · exact h5
  · exact hw
def T_B : u_T := fun k => match k with
  | 0 => ("VillageMail$Box", "letters", "[I", true)
  | 1 => ("VillageMail$Box", "count", "I", false)
  | 2 => ("VillageMail$Box", "bytes", "I", false)
  | _ => ("VillageMail$Box", "quota", "I", false)
def ty_B : Nat → FieldType := fun k => match k with
  | 0 => .array .int
  | 1 => .int
  | 2 => .int
  | _ => .int
set_option maxRecDepth 100000 in
theorem nm_B : ∀ a, a < 4 → ∀ b, b < 4 → a ≠ b → (T_B a).2.1 ≠ (T_B b).2.1 := by decide +kernel
theorem tk_B : ∀ k, k < 4 → parseFieldDescriptor (T_B k).2.2.1 = some (ty_B k) := by decide +kernel
set_option maxRecDepth 100000 in
theorem in_B : ∀ w ∈ u_ws "VillageMail$Box" T_B 4, w ∈ wAll := wa_all [119, 121, 123, 125] (by decide +kernel) (by decide +kernel)
def T_C : u_T := fun k => match k with
  | 0 => ("VillageMail$Boxes", "each", "[LVillageMail$Box;", true)
  | _ => ("VillageMail$Boxes", "groups", "[I", true)
def ty_C : Nat → FieldType := fun k => match k with
  | 0 => .array (.object "VillageMail$Box")
  | _ => .array .int
set_option maxRecDepth 100000 in
theorem nm_C : ∀ a, a < 2 → ∀ b, b < 2 → a ≠ b → (T_C a).2.1 ≠ (T_C b).2.1 := by decide +kernel
theorem tk_C : ∀ k, k < 2 → parseFieldDescriptor (T_C k).2.2.1 = some (ty_C k) := by decide +kernel
set_option maxRecDepth 100000 in
theorem in_C : ∀ w ∈ u_ws "VillageMail$Boxes" T_C 2, w ∈ wAll := wa_all [131, 133] (by decide +kernel) (by decide +kernel)
def T_L : u_T := fun k => match k with
  | 0 => ("VillageMail$Letter", "from", "I", false)
  | 1 => ("VillageMail$Letter", "goal", "I", false)
  | 2 => ("VillageMail$Letter", "box", "I", false)
  | 3 => ("VillageMail$Letter", "sort", "I", false)
  | 4 => ("VillageMail$Letter", "posted", "I", false)
  | 5 => ("VillageMail$Letter", "promised", "I", false)
  | 6 => ("VillageMail$Letter", "length", "I", false)
  | 7 => ("VillageMail$Letter", "sum", "I", false)
  | 8 => ("VillageMail$Letter", "isOver", "Z", false)
  | 9 => ("VillageMail$Letter", "expired", "Z", false)
  | _ => ("VillageMail$Letter", "received", "[J", true)
def ty_L : Nat → FieldType := fun k => match k with
  | 0 => .int
  | 1 => .int
  | 2 => .int
  | 3 => .int
  | 4 => .int
  | 5 => .int
  | 6 => .int
  | 7 => .int
  | 8 => .boolean
  | 9 => .boolean
  | _ => .array .long
set_option maxRecDepth 100000 in
theorem nm_L : ∀ a, a < 11 → ∀ b, b < 11 → a ≠ b → (T_L a).2.1 ≠ (T_L b).2.1 := by decide +kernel
theorem tk_L : ∀ k, k < 11 → parseFieldDescriptor (T_L k).2.2.1 = some (ty_L k) := by decide +kernel
set_option maxRecDepth 100000 in
theorem in_L : ∀ w ∈ u_ws "VillageMail$Letter" T_L 11, w ∈ wAll := wa_all [155, 157, 159, 161, 163, 165, 167, 169, 171, 173, 175] (by decide +kernel) (by decide +kernel)
def T_O : u_T := fun k => match k with
  | 0 => ("VillageMail$Offers", "pieces", "[I", true)
  | _ => ("VillageMail$Offers", "count", "I", false)
def ty_O : Nat → FieldType := fun k => match k with
  | 0 => .array .int
  | _ => .int
set_option maxRecDepth 100000 in
theorem nm_O : ∀ a, a < 2 → ∀ b, b < 2 → a ≠ b → (T_O a).2.1 ≠ (T_O b).2.1 := by decide +kernel
theorem tk_O : ∀ k, k < 2 → parseFieldDescriptor (T_O k).2.2.1 = some (ty_O k) := by decide +kernel
set_option maxRecDepth 100000 in
theorem in_O : ∀ w ∈ u_ws "VillageMail$Offers" T_O 2, w ∈ wAll := wa_all [206, 208] (by decide +kernel) (by decide +kernel)
def T_R : u_T := fun k => match k with
  | 0 => ("VillageMail$Ride", "came", "[I", true)
  | 1 => ("VillageMail$Ride", "canLeave", "[I", true)
  | _ => ("VillageMail$Ride", "aboard", "[Z", true)
def ty_R : Nat → FieldType := fun k => match k with
  | 0 => .array .int
  | 1 => .array .int
  | _ => .array .boolean
set_option maxRecDepth 100000 in
theorem nm_R : ∀ a, a < 3 → ∀ b, b < 3 → a ≠ b → (T_R a).2.1 ≠ (T_R b).2.1 := by decide +kernel
theorem tk_R : ∀ k, k < 3 → parseFieldDescriptor (T_R k).2.2.1 = some (ty_R k) := by decide +kernel
set_option maxRecDepth 100000 in
theorem in_R : ∀ w ∈ u_ws "VillageMail$Ride" T_R 3, w ∈ wAll := wa_all [188, 190, 192] (by decide +kernel) (by decide +kernel)
def T_S : u_T := fun k => match k with
  | 0 => ("VillageMail$Store", "capacity", "I", true)
  | 1 => ("VillageMail$Store", "hops", "[I", true)
  | 2 => ("VillageMail$Store", "news", "[I", true)
  | 3 => ("VillageMail$Store", "bytes", "[J", true)
  | 4 => ("VillageMail$Store", "known", "[I", true)
  | 5 => ("VillageMail$Store", "copies", "I", false)
  | 6 => ("VillageMail$Store", "timetable", "I", false)
  | 7 => ("VillageMail$Store", "expiredLetters", "I", false)
  | _ => ("VillageMail$Store", "refusals", "I", false)
def ty_S : Nat → FieldType := fun k => match k with
  | 0 => .int
  | 1 => .array .int
  | 2 => .array .int
  | 3 => .array .long
  | 4 => .array .int
  | 5 => .int
  | 6 => .int
  | 7 => .int
  | _ => .int
set_option maxRecDepth 100000 in
theorem nm_S : ∀ a, a < 9 → ∀ b, b < 9 → a ≠ b → (T_S a).2.1 ≠ (T_S b).2.1 := by decide +kernel
theorem tk_S : ∀ k, k < 9 → parseFieldDescriptor (T_S k).2.2.1 = some (ty_S k) := by decide +kernel
set_option maxRecDepth 100000 in
theorem in_S : ∀ w ∈ u_ws "VillageMail$Store" T_S 9, w ∈ wAll := wa_all [77, 79, 81, 83, 85, 87, 89, 91, 93] (by decide +kernel) (by decide +kernel)
def T_T : u_T := fun k => match k with
  | 0 => ("VillageMail$Timetable", "buses", "[I", true)
  | 1 => ("VillageMail$Timetable", "kiosks", "[I", true)
  | 2 => ("VillageMail$Timetable", "minutes", "[I", true)
  | _ => ("VillageMail$Timetable", "count", "I", false)
def ty_T : Nat → FieldType := fun k => match k with
  | 0 => .array .int
  | 1 => .array .int
  | 2 => .array .int
  | _ => .int
set_option maxRecDepth 100000 in
theorem nm_T : ∀ a, a < 4 → ∀ b, b < 4 → a ≠ b → (T_T a).2.1 ≠ (T_T b).2.1 := by decide +kernel
theorem tk_T : ∀ k, k < 4 → parseFieldDescriptor (T_T k).2.2.1 = some (ty_T k) := by decide +kernel
set_option maxRecDepth 100000 in
theorem in_T : ∀ w ∈ u_ws "VillageMail$Timetable" T_T 4, w ∈ wAll := wa_all [43, 45, 47, 49] (by decide +kernel) (by decide +kernel)
def T_X : u_T := fun k => match k with
  | 0 => ("VillageMail", "clock", "I", false)
  | 1 => ("VillageMail", "draft", "LVillageMail$Timetable;", true)
  | 2 => ("VillageMail", "published", "[LVillageMail$Timetable;", true)
  | 3 => ("VillageMail", "publications", "I", false)
  | 4 => ("VillageMail", "stores", "[LVillageMail$Store;", true)
  | 5 => ("VillageMail", "boxes", "[LVillageMail$Boxes;", true)
  | 6 => ("VillageMail", "letters", "[LVillageMail$Letter;", true)
  | 7 => ("VillageMail", "letterCount", "I", false)
  | 8 => ("VillageMail", "text", "[J", true)
  | 9 => ("VillageMail", "textLength", "I", false)
  | 10 => ("VillageMail", "fromKiosk", "LVillageMail$Ride;", true)
  | 11 => ("VillageMail", "fromBus", "LVillageMail$Ride;", true)
  | 12 => ("VillageMail", "busOffers", "LVillageMail$Offers;", true)
  | 13 => ("VillageMail", "kioskOffers", "LVillageMail$Offers;", true)
  | 14 => ("VillageMail", "lastGiver", "I", false)
  | _ => ("VillageMail", "lastPiece", "I", false)
def ty_X : Nat → FieldType := fun k => match k with
  | 0 => .int
  | 1 => .object "VillageMail$Timetable"
  | 2 => .array (.object "VillageMail$Timetable")
  | 3 => .int
  | 4 => .array (.object "VillageMail$Store")
  | 5 => .array (.object "VillageMail$Boxes")
  | 6 => .array (.object "VillageMail$Letter")
  | 7 => .int
  | 8 => .array .long
  | 9 => .int
  | 10 => .object "VillageMail$Ride"
  | 11 => .object "VillageMail$Ride"
  | 12 => .object "VillageMail$Offers"
  | 13 => .object "VillageMail$Offers"
  | 14 => .int
  | _ => .int
set_option maxRecDepth 100000 in
theorem nm_X : ∀ a, a < 16 → ∀ b, b < 16 → a ≠ b → (T_X a).2.1 ≠ (T_X b).2.1 := by decide +kernel
theorem tk_X : ∀ k, k < 16 → parseFieldDescriptor (T_X k).2.2.1 = some (ty_X k) := by decide +kernel
set_option maxRecDepth 100000 in
theorem in_X : ∀ w ∈ u_ws "VillageMail" T_X 16, w ∈ wAll := wa_all [227, 229, 231, 233, 235, 237, 239, 241, 243, 245, 247, 249, 251, 253, 255, 257] (by decide +kernel) (by decide +kernel)
def T_M : u_T := fun k => match k with
  | 0 => ("VillageMailModel", "stopBus", "[I", true)
  | 1 => ("VillageMailModel", "stopKiosk", "[I", true)
  | 2 => ("VillageMailModel", "stopMinute", "[I", true)
  | 3 => ("VillageMailModel", "stops", "[I", true)
  | 4 => ("VillageMailModel", "published", "I", false)
  | 5 => ("VillageMailModel", "now", "I", false)
  | 6 => ("VillageMailModel", "held", "[I", true)
  | 7 => ("VillageMailModel", "letters", "I", false)
  | 8 => ("VillageMailModel", "size", "[I", true)
  | 9 => ("VillageMailModel", "sort", "[I", true)
  | 10 => ("VillageMailModel", "origin", "[I", true)
  | 11 => ("VillageMailModel", "goal", "[I", true)
  | 12 => ("VillageMailModel", "address", "[I", true)
  | 13 => ("VillageMailModel", "posted", "[I", true)
  | 14 => ("VillageMailModel", "sum", "[I", true)
  | 15 => ("VillageMailModel", "promised", "[I", true)
  | 16 => ("VillageMailModel", "expired", "[Z", true)
  | 17 => ("VillageMailModel", "delivered", "[I", true)
  | 18 => ("VillageMailModel", "copy", "[Z", true)
  | 19 => ("VillageMailModel", "hops", "[I", true)
  | 20 => ("VillageMailModel", "news", "[I", true)
  | 21 => ("VillageMailModel", "bytes", "[I", true)
  | 22 => ("VillageMailModel", "known", "[I", true)
  | 23 => ("VillageMailModel", "expiredAt", "[I", true)
  | 24 => ("VillageMailModel", "refusals", "[I", true)
  | 25 => ("VillageMailModel", "quota", "[I", true)
  | 26 => ("VillageMailModel", "lying", "[I", true)
  | 27 => ("VillageMailModel", "lies", "[I", true)
  | 28 => ("VillageMailModel", "member", "[Z", true)
  | 29 => ("VillageMailModel", "text", "[I", true)
  | 30 => ("VillageMailModel", "textLong", "I", false)
  | 31 => ("VillageMailModel", "thrown", "I", false)
  | 32 => ("VillageMailModel", "riding", "[Z", true)
  | 33 => ("VillageMailModel", "from", "[I", true)
  | 34 => ("VillageMailModel", "offered", "[Z", true)
  | 35 => ("VillageMailModel", "gift", "I", false)
  | 36 => ("VillageMailModel", "giftHops", "I", false)
  | _ => ("VillageMailModel", "giftBytes", "[I", true)
def ty_M : Nat → FieldType := fun k => match k with
  | 0 => .array .int
  | 1 => .array .int
  | 2 => .array .int
  | 3 => .array .int
  | 4 => .int
  | 5 => .int
  | 6 => .array .int
  | 7 => .int
  | 8 => .array .int
  | 9 => .array .int
  | 10 => .array .int
  | 11 => .array .int
  | 12 => .array .int
  | 13 => .array .int
  | 14 => .array .int
  | 15 => .array .int
  | 16 => .array .boolean
  | 17 => .array .int
  | 18 => .array .boolean
  | 19 => .array .int
  | 20 => .array .int
  | 21 => .array .int
  | 22 => .array .int
  | 23 => .array .int
  | 24 => .array .int
  | 25 => .array .int
  | 26 => .array .int
  | 27 => .array .int
  | 28 => .array .boolean
  | 29 => .array .int
  | 30 => .int
  | 31 => .int
  | 32 => .array .boolean
  | 33 => .array .int
  | 34 => .array .boolean
  | 35 => .int
  | 36 => .int
  | _ => .array .int
set_option maxRecDepth 100000 in
theorem nm_M : ∀ a, a < 38 → ∀ b, b < 38 → a ≠ b → (T_M a).2.1 ≠ (T_M b).2.1 := by decide +kernel
theorem tk_M : ∀ k, k < 38 → parseFieldDescriptor (T_M k).2.2.1 = some (ty_M k) := by decide +kernel
set_option maxRecDepth 100000 in
theorem in_M : ∀ w ∈ u_ws "VillageMailModel" T_M 38, w ∈ wAll := wa_all [771, 773, 775, 777, 779, 781, 783, 785, 787, 789, 791, 793, 795, 797, 799, 801, 803, 805, 807, 809, 811, 813, 815, 817, 819, 821, 823, 825, 827, 829, 831, 833, 835, 837, 839, 841, 843, 845] (by decide +kernel) (by decide +kernel)
abbrev vwCl : List vw_C := [("VillageMail$Box", T_B, 4), ("VillageMail$Boxes", T_C, 2), ("VillageMail$Letter", T_L, 11), ("VillageMail$Offers", T_O, 2), ("VillageMail$Ride", T_R, 3), ("VillageMail$Store", T_S, 9), ("VillageMail$Timetable", T_T, 4), ("VillageMail", T_X, 16), ("VillageMailModel", T_M, 38)]
end
section
-- the picture of the cells: families of cells, each with its rows of numbers
abbrev Mem : Type := (Nat → Nat → Nat → Int32) × (Nat → Nat → Nat → Int64)
abbrev Oc : Type := Nat ⊕ Option Value
abbrev RR : Type := Option (Oc × Mem)
abbrev KK : Type := Nat × va_G × (Nat → ClassId) × (Nat → Nat → Nat)
abbrev Cx : Type := Program × Launch × Env × Room × State × MethodId × Array Value × List Frame × Method × Code × (State → Prop) × Nat × Nat
def FU : Nat := 100000
def aa (K : KK) (F i : Nat) : Nat := K.2.2.2 F i
-- what a method does, in steps
def mm_wI (σ : Mem) (F i k : Nat) (v : Int32) : Mem := (fun F' i' k' => if F' = F ∧ i' = i ∧ k' = k then v else σ.1 F' i' k', σ.2)
def mm_wJ (σ : Mem) (F i k : Nat) (v : Int64) : Mem := (σ.1, fun F' i' k' => if F' = F ∧ i' = i ∧ k' = k then v else σ.2 F' i' k')
def mm_ld (σ : Mem) (F i N : Nat) (x : Int32) (k : Int32 → RR) : RR := if x < 0 ∨ N ≤ x.toNatClampNeg then none else k (σ.1 F i x.toNatClampNeg)
def mm_ldj (σ : Mem) (F i N : Nat) (x : Int32) (k : Int64 → RR) : RR := if x < 0 ∨ N ≤ x.toNatClampNeg then none else k (σ.2 F i x.toNatClampNeg)
def mm_al (N : Nat) (x : Int32) (k : Nat → RR) : RR := if x < 0 ∨ N ≤ x.toNatClampNeg then none else k x.toNatClampNeg
def mm_st (σ : Mem) (F i N : Nat) (x v : Int32) (k : Mem → RR) : RR := if x < 0 ∨ N ≤ x.toNatClampNeg then none else k (mm_wI σ F i x.toNatClampNeg v)
def mm_sz (σ : Mem) (F i N : Nat) (x v : Int32) (k : Mem → RR) : RR := if x < 0 ∨ N ≤ x.toNatClampNeg then none else k (mm_wI σ F i x.toNatClampNeg (vp_nar .boolean v))
def mm_stj (σ : Mem) (F i N : Nat) (x : Int32) (v : Int64) (k : Mem → RR) : RR := if x < 0 ∨ N ≤ x.toNatClampNeg then none else k (mm_wJ σ F i x.toNatClampNeg v)
def mm_gf (σ : Mem) (F i q : Nat) (k : Int32 → RR) : RR := k (σ.1 F i q)
def mm_pf (σ : Mem) (F i q : Nat) (v : Int32) (k : Mem → RR) : RR := k (mm_wI σ F i q v)
def mm_pz (σ : Mem) (F i q : Nat) (v : Int32) (k : Mem → RR) : RR := if v = 0 ∨ v = 1 then k (mm_wI σ F i q v) else none
def mm_ri (v : Int32) (σ : Mem) : RR := some (.inr (some (.int v)), σ)
def mm_rz (v : Int32) (σ : Mem) : RR := if v = 0 ∨ v = 1 then some (.inr (some (.int v)), σ) else none
def mm_rj (v : Int64) (σ : Mem) : RR := some (.inr (some (.long v)), σ)
def mm_rv (σ : Mem) : RR := some (.inr none, σ)
def mm_th (e : Nat) (σ : Mem) : RR := some (.inl e, σ)
def mm_cI (a : RR) (k : Int32 → Mem → RR) : RR := match a with
  | some (.inr (some (.int v)), σ) => k v σ
  | _ => none
def mm_cJ (a : RR) (k : Int64 → Mem → RR) : RR := match a with
  | some (.inr (some (.long v)), σ) => k v σ
  | _ => none
def mm_cV (a : RR) (k : Mem → RR) : RR := match a with
  | some (.inr none, σ) => k σ
  | _ => none
def mm_tV (a : RR) (k : Mem → RR) : RR := match a with
  | some (.inr none, σ) => k σ
  | some (.inl e, σ) => some (.inl e, σ)
  | _ => none
def mm_jn {α : Type} (r : α → Mem → RR) (b : (α → Mem → RR) → RR) : RR := b r
abbrev mm_lp {α : Type} (b : α → RR) (k : α) : RR := b k
def mm_nz (y : Int32) (a : RR) : RR := if y = 0 then none else a
def mm_ishl (x y : Int32) : Int32 := x <<< (y &&& 31)
def mm_ishr (x y : Int32) : Int32 := x >>> (y &&& 31)
def mm_iushr (x y : Int32) : Int32 := (x.toUInt32 >>> (y.toUInt32 &&& Int32.toUInt32 31)).toInt32
def mm_lshl (x : Int64) (y : Int32) : Int64 := x <<< (y.toInt64 &&& 63)
def mm_lushr (x : Int64) (y : Int32) : Int64 := (x.toUInt64 >>> (y.toInt64.toUInt64 &&& Int64.toUInt64 63)).toInt64
def mm_irem (x y : Int32) : Int32 := x - x / y * y
def mm_max (x y : Int32) : Int32 := if x < y then y else x
def mm_min (x y : Int32) : Int32 := if y < x then y else x
def mm_cp (σ : Mem) (F i N : Nat) (sp : Int32) (F2 i2 N2 : Nat) (dp n : Int32) (k : Mem → RR) : RR :=
  if sp < 0 ∨ dp < 0 ∨ n < 0 ∨ ¬ sp.toNatClampNeg + n.toNatClampNeg ≤ N ∨ ¬ dp.toNatClampNeg + n.toNatClampNeg ≤ N2 then none
  else k (σ.1, fun F' i' k' => if F' = F2 ∧ i' = i2 then va_cpy (σ.2 F i) (σ.2 F2 i2) sp.toNatClampNeg dp.toNatClampNeg n.toNatClampNeg k' else σ.2 F' i' k')
end
section
def cnt (F : Nat) : Nat := match F with
  | 0 => 1
  | 1 => 8
  | 2 => 8
  | 3 => 8
  | 4 => 8
  | 5 => 1
  | 6 => 1
  | 7 => 12
  | 8 => 12
  | 9 => 12
  | 10 => 12
  | 11 => 12
  | 12 => 1
  | 13 => 8
  | 14 => 8
  | 15 => 8
  | 16 => 24
  | 17 => 24
  | 18 => 1
  | 19 => 16
  | 20 => 16
  | 21 => 1
  | 22 => 2
  | 23 => 2
  | 24 => 2
  | 25 => 2
  | 26 => 2
  | 27 => 2
  | 30 => 1
  | 31 => 1
  | 32 => 1
  | 33 => 1
  | 34 => 1
  | 35 => 1
  | 36 => 1
  | 37 => 1
  | 38 => 1
  | 39 => 1
  | 40 => 1
  | 41 => 1
  | 42 => 1
  | 43 => 1
  | 44 => 1
  | 45 => 1
  | 46 => 1
  | 47 => 1
  | 48 => 1
  | 49 => 1
  | 50 => 1
  | 51 => 1
  | 52 => 1
  | 53 => 1
  | 54 => 1
  | 55 => 1
  | 56 => 1
  | 57 => 1
  | 58 => 1
  | 59 => 1
  | 60 => 1
  | 61 => 1
  | 70 => 1
  | _ => 0
def tb_all : List (Nat × Nat) := (List.range 72).flatMap fun F => (List.range (cnt F)).map fun i => (F, i)
def tb_base (F : Nat) : Nat := match F with
  | 0 => 0
  | 1 => 1
  | 2 => 9
  | 3 => 17
  | 4 => 25
  | 5 => 33
  | 6 => 34
  | 7 => 35
  | 8 => 47
  | 9 => 59
  | 10 => 71
  | 11 => 83
  | 12 => 95
  | 13 => 96
  | 14 => 104
  | 15 => 112
  | 16 => 120
  | 17 => 144
  | 18 => 168
  | 19 => 169
  | 20 => 185
  | 21 => 201
  | 22 => 202
  | 23 => 204
  | 24 => 206
  | 25 => 208
  | 26 => 210
  | 27 => 212
  | 30 => 214
  | 31 => 215
  | 32 => 216
  | 33 => 217
  | 34 => 218
  | 35 => 219
  | 36 => 220
  | 37 => 221
  | 38 => 222
  | 39 => 223
  | 40 => 224
  | 41 => 225
  | 42 => 226
  | 43 => 227
  | 44 => 228
  | 45 => 229
  | 46 => 230
  | 47 => 231
  | 48 => 232
  | 49 => 233
  | 50 => 234
  | 51 => 235
  | 52 => 236
  | 53 => 237
  | 54 => 238
  | 55 => 239
  | 56 => 240
  | 57 => 241
  | 58 => 242
  | 59 => 243
  | 60 => 244
  | 61 => 245
  | 70 => 246
  | _ => 0
def tb_pos (F i : Nat) : Nat := tb_base F + i
set_option maxRecDepth 100000 in
theorem tb_at : ∀ F, F < 72 → ∀ i, i < cnt F → tb_all[tb_pos F i]? = some (F, i) := by decide +kernel
set_option maxRecDepth 100000 in
theorem tb_inv0 : (List.range tb_all.length).all (fun j => match tb_all[j]? with | some c => tb_pos c.1 c.2 == j | none => true) = true := by decide +kernel
theorem tb_inv : ∀ (j : Nat) (c : Nat × Nat), tb_all[j]? = some c → tb_pos c.1 c.2 = j := by
  intro j c h
  have hj : j < tb_all.length := (List.getElem?_eq_some_iff.mp h).1
  have h1 := List.all_eq_true.mp tb_inv0 j (List.mem_range.mpr hj)
  rw [h] at h1
  simpa using h1
def tyL (tc : Nat → ClassId) : List (ClassId × FieldType) := [(tc 0, .int), (tc 1, .long), (tc 2, .boolean), (tc 3, .object "VillageMail$Timetable"), (tc 4, .object "VillageMail$Store"), (tc 5, .object "VillageMail$Boxes"), (tc 6, .object "VillageMail$Box"), (tc 7, .object "VillageMail$Letter")]
def ctR (K : KK) (F i : Nat) (r : Nat → Int32) (q : Nat → Int64) : va_E := match F with
  | 0 => .inr (7, [.int (r 0), .ref (aa K 1 7), .ref (aa K 5 0), .int (r 3), .ref (aa K 6 0), .ref (aa K 12 0), .ref (aa K 18 0), .int (r 7), .ref (aa K 21 0), .int (r 9), .ref (aa K 22 0), .ref (aa K 22 1), .ref (aa K 26 0), .ref (aa K 26 1), .int (r 14), .int (r 15)])
  | 1 => .inr (6, [.ref (aa K 2 i), .ref (aa K 3 i), .ref (aa K 4 i), .int (r 3)])
  | 2 => .inl (K.2.2.1 0, 24, .inl r)
  | 3 => .inl (K.2.2.1 0, 24, .inl r)
  | 4 => .inl (K.2.2.1 0, 24, .inl r)
  | 5 => .inl (K.2.2.1 3, 7, .inr (.inr (.inr (.inr (fun j => some (aa K 1 j))))))
  | 6 => .inl (K.2.2.1 4, 12, .inr (.inr (.inr (.inr (fun j => some (aa K 7 j))))))
  | 7 => .inr (5, [.int (r 0), .ref (aa K 8 i), .ref (aa K 9 i), .ref (aa K 10 i), .ref (aa K 11 i), .int (r 5), .int (r 6), .int (r 7), .int (r 8)])
  | 8 => .inl (K.2.2.1 0, 64, .inl r)
  | 9 => .inl (K.2.2.1 0, 64, .inl r)
  | 10 => .inl (K.2.2.1 1, 64, .inr (.inl q))
  | 11 => .inl (K.2.2.1 0, 16, .inl r)
  | 12 => .inl (K.2.2.1 5, 8, .inr (.inr (.inr (.inr (fun j => some (aa K 13 j))))))
  | 13 => .inr (1, [.ref (aa K 14 i), .ref (aa K 15 i)])
  | 14 => .inl (K.2.2.1 6, 3, .inr (.inr (.inr (.inr (fun j => some (aa K 16 (3 * i + j)))))))
  | 15 => .inl (K.2.2.1 0, 2, .inl r)
  | 16 => .inr (0, [.ref (aa K 17 i), .int (r 1), .int (r 2), .int (r 3)])
  | 17 => .inl (K.2.2.1 0, 16, .inl r)
  | 18 => .inl (K.2.2.1 7, 16, .inr (.inr (.inr (.inr (fun j => some (aa K 19 j))))))
  | 19 => .inr (2, [.int (r 0), .int (r 1), .int (r 2), .int (r 3), .int (r 4), .int (r 5), .int (r 6), .int (r 7), .int (r 8), .int (r 9), .ref (aa K 20 i)])
  | 20 => .inl (K.2.2.1 1, 4, .inr (.inl q))
  | 21 => .inl (K.2.2.1 1, 4, .inr (.inl q))
  | 22 => .inr (4, [.ref (aa K 23 i), .ref (aa K 24 i), .ref (aa K 25 i)])
  | 23 => .inl (K.2.2.1 0, 8, .inl r)
  | 24 => .inl (K.2.2.1 0, 8, .inl r)
  | 25 => .inl (K.2.2.1 2, 4, .inl r)
  | 26 => .inr (3, [.ref (aa K 27 i), .int (r 1)])
  | 27 => .inl (K.2.2.1 0, 24, .inl r)
  | 30 => .inr (8, [.ref (aa K 31 0), .ref (aa K 32 0), .ref (aa K 33 0), .ref (aa K 34 0), .int (r 4), .int (r 5), .ref (aa K 35 0), .int (r 7), .ref (aa K 36 0), .ref (aa K 37 0), .ref (aa K 38 0), .ref (aa K 39 0), .ref (aa K 40 0), .ref (aa K 41 0), .ref (aa K 42 0), .ref (aa K 43 0), .ref (aa K 44 0), .ref (aa K 45 0), .ref (aa K 46 0), .ref (aa K 47 0), .ref (aa K 48 0), .ref (aa K 49 0), .ref (aa K 50 0), .ref (aa K 51 0), .ref (aa K 52 0), .ref (aa K 53 0), .ref (aa K 54 0), .ref (aa K 55 0), .ref (aa K 56 0), .ref (aa K 57 0), .int (r 30), .int (r 31), .ref (aa K 58 0), .ref (aa K 59 0), .ref (aa K 60 0), .int (r 35), .int (r 36), .ref (aa K 61 0)])
  | 31 => .inl (K.2.2.1 0, 192, .inl r)
  | 32 => .inl (K.2.2.1 0, 192, .inl r)
  | 33 => .inl (K.2.2.1 0, 192, .inl r)
  | 34 => .inl (K.2.2.1 0, 8, .inl r)
  | 35 => .inl (K.2.2.1 0, 12, .inl r)
  | 36 => .inl (K.2.2.1 0, 16, .inl r)
  | 37 => .inl (K.2.2.1 0, 16, .inl r)
  | 38 => .inl (K.2.2.1 0, 16, .inl r)
  | 39 => .inl (K.2.2.1 0, 16, .inl r)
  | 40 => .inl (K.2.2.1 0, 16, .inl r)
  | 41 => .inl (K.2.2.1 0, 16, .inl r)
  | 42 => .inl (K.2.2.1 0, 16, .inl r)
  | 43 => .inl (K.2.2.1 0, 16, .inl r)
  | 44 => .inl (K.2.2.1 2, 16, .inl r)
  | 45 => .inl (K.2.2.1 0, 512, .inl r)
  | 46 => .inl (K.2.2.1 2, 768, .inl r)
  | 47 => .inl (K.2.2.1 0, 768, .inl r)
  | 48 => .inl (K.2.2.1 0, 768, .inl r)
  | 49 => .inl (K.2.2.1 0, 6144, .inl r)
  | 50 => .inl (K.2.2.1 0, 192, .inl r)
  | 51 => .inl (K.2.2.1 0, 12, .inl r)
  | 52 => .inl (K.2.2.1 0, 12, .inl r)
  | 53 => .inl (K.2.2.1 0, 24, .inl r)
  | 54 => .inl (K.2.2.1 0, 24, .inl r)
  | 55 => .inl (K.2.2.1 0, 384, .inl r)
  | 56 => .inl (K.2.2.1 2, 48, .inl r)
  | 57 => .inl (K.2.2.1 0, 32, .inl r)
  | 58 => .inl (K.2.2.1 2, 4, .inl r)
  | 59 => .inl (K.2.2.1 0, 8, .inl r)
  | 60 => .inl (K.2.2.1 2, 128, .inl r)
  | 61 => .inl (K.2.2.1 0, 8, .inl r)
  | 70 => .inl (K.2.2.1 1, 1, .inr (.inl q))
  | _ => .inr (0, [])
def ct (K : KK) (σ : Mem) (F i : Nat) : va_E := ctR K F i (σ.1 F i) (σ.2 F i)
def FL (K : KK) (σ : Mem) : va_W := tb_all.map fun c => (aa K c.1 c.2, ct K σ c.1 c.2)
def AK (K : KK) : Nat → Prop := fun q => ∃ F i, F < 72 ∧ i < cnt F ∧ q = aa K F i
def exn : Nat → String
  | 1 => "java/lang/IllegalArgumentException"
  | 2 => "java/lang/IllegalStateException"
  | 3 => "java/lang/IndexOutOfBoundsException"
  | _ => "java/util/NoSuchElementException"
-- a static of Throwable that holds a reference or null, in a cell that no row of ours touches
def Sta (A : Nat → Prop) (U : State) (H : Heap) (n d : String) : Prop := ∃ (c : ClassId) (k : Class) (i : Nat) (f : Field) (a : Nat) (cell : Cell) (v : Value), U.vm.findClass Bundle.tN = some c ∧ U.fieldFound? Bundle.tN n d = some (c, k, i, f) ∧ f.isStatic = true ∧ k.statics = some a ∧ k.staticTypes[f.slot]? = some f.type ∧ H[a]? = some cell ∧ cell.vm.isStatics = true ∧ cell.cls = c ∧ f.slot < cell.slots.size ∧ cell.slots[f.slot]? = some v ∧ v.isRef = true ∧ ¬ A a
def StU (K : KK) (U : State) (H : Heap) : Prop := Sta (AK K) U H "UNASSIGNED_STACK" Bundle.steD
def StN (K : KK) (U : State) (H : Heap) : Prop := Sta (AK K) U H "SUPPRESSED_SENTINEL" Bundle.listD
def Wd (K : KK) (σ : Mem) (U : State) : Prop := va_P K.2.1 vwCl (FL K σ) U.heap ∧ va_D (AK K) (FL K σ) ∧ va_K K.2.1 vwCl (tyL K.2.2.1) U ∧ StU K U U.heap ∧ StN K U U.heap
def PcO (K : KK) (av : List Value) (σ : Mem) : Array Value → State → Prop := fun a U => a = av.toArray ∧ Wd K σ U
def QcR (K : KK) (r : Option Value) (q : Mem) : Array Value → State → Outcome → State → Prop := fun _ st oc t => oc = .returned r ∧ Wd K q t ∧ va_F (AK K) st t
def TqO (K : KK) (e : Nat) (q : Mem) : State → Outcome → State → Prop := fun st oc t => ∃ (x : Addr) (ce : Cell) (L : List Loc), oc = .threw x ∧ t.heap[x]? = some ce ∧ ce.vm = .none ∧ st.vm.findClass (exn e) = some ce.cls ∧ Wd K q t ∧ va_F (AK K) st t ∧ st.WarmedH t.vm ∧ st.sameButNew ({ t with vm := st.vm } : State) L 1 6 ∧ ∀ z ∈ L, AK K z.base
def Ct (l : Launch) (K : KK) (y : MethodName) (b : ByteArray) (mL : Nat) (rt : Option FieldType) (fr lo : Nat) (av : List Value) (σ : Mem) (o : Oc) (q : Mem) : Prop := l.stackTraces = false → match o with
  | .inr r => Met l y (.code y b mL rt :: wAll) { frames := fr, cells := 0, slots := 0, locals := lo } (PcO K av σ) (QcR K r q) 0 0 (AK K)
  | .inl e => MetFree l y (headSpec (.code y b mL rt :: wAll) { frames := fr, cells := 1, slots := 6, locals := lo }) (PcO K av σ) (fun _ _ _ _ _ => True) (fun _ st oc t => TqO K e q st oc t)
def Good (K : KK) (Γ : Cx) (cc : ByteArray) (own : String) (nL fr lo : Nat) : Prop := match Γ with
  | (p, l, _, R, s, m, args, _, meth, c, _, _, _) => p.tables.exec = Jvm.exec ∧ c.code = cc ∧ c.maxLocals = nL ∧ s.vm.findClass own = some m.cls ∧ (∀ w ∈ wAll, w.before args s = true) ∧ va_K K.2.1 vwCl (tyL K.2.2.1) s ∧ (fr ≤ R.frames ∧ lo ≤ R.locals) ∧ meth.locks = false ∧ (∃ σ0, va_P K.2.1 vwCl (FL K σ0) s.heap) ∧ l.stackTraces = false ∧ StU K s s.heap ∧ StN K s s.heap
def EQ (K : KK) (below : List Frame) (args : Array Value) (s : State) (o : Oc) (q : Mem) : State → Prop := match o with
  | .inr r => MQ below (QcR K r q) args s 0 0 (AK K)
  | .inl e => fun t => ∃ oc, t.status = .running ∧ Ended t below oc ∧ TqO K e q s oc t
def Ends (K : KK) (Γ : Cx) (rt : Option FieldType) (o : Oc) (q : Mem) : Prop := match Γ with
  | (_, _, _, R, s, _, args, below, meth, c, Q, c0, s0) => Q = EQ K below args s o q ∧ meth.sig.returnType = rt ∧ (∀ pc, ∀ x ∈ c.exceptionTable.toList, covers x pc = false) ∧ (∀ e, o = .inl e → 1 ≤ R.cells ∧ 6 ≤ R.slots) ∧ c0 = 0 ∧ s0 = 0
def WW (K : KK) (Γ : Cx) (n : Nat) (σ : Mem) (pc : Nat) (L : List (Nat × Value)) (S : List Value) : Prop := match Γ with
  | (p, l, e, R, s, m, args, below, meth, c, Q, c0, s0) => ∀ (H : Heap) (locs : List Loc) (ls : Array Slot), lv_has ls c.maxLocals L → va_P K.2.1 vwCl (FL K σ) H → va_D (AK K) (FL K σ) → va_S (AK K) s.heap H locs → W p l e R s m args below meth c H locs (c0 + n) (s0 + 6 * n) Q (F0 m pc ls S)
def ArI (F N : Nat) : Prop := F < 72 ∧ ∀ K i r q, ctR K F i r q = .inl (K.2.2.1 0, N, .inl r)
def ArZ (F N : Nat) : Prop := F < 72 ∧ ∀ K i r q, ctR K F i r q = .inl (K.2.2.1 2, N, .inl r)
def ArJ (F N : Nat) : Prop := F < 72 ∧ ∀ K i r q, ctR K F i r q = .inl (K.2.2.1 1, N, .inr (.inl q))
def ArA (F N t : Nat) (C : String) (F2 : Nat) (g : Nat → Nat → Nat) : Prop := F < 72 ∧ (∀ K : KK, (tyL K.2.2.1)[t]? = some (K.2.2.1 t, .object C)) ∧ ∀ K i r q, ctR K F i r q = .inl (K.2.2.1 t, N, .inr (.inr (.inr (.inr (fun j => some (aa K F2 (g i j)))))))
def FsI (own : String) (idx F q : Nat) (ty : FieldType) (fn : Bool) : Prop := F < 72 ∧ ∃ (ci : Nat) (C : String) (T : u_T) (N : Nat) (ty0 : Nat → FieldType), vwCl[ci]? = some (C, T, N) ∧ q < N ∧ (∀ w ∈ u_ws C T N, w ∈ wAll) ∧ Cond.fieldLink own idx (T q).1 (T q).2.1 (T q).2.2.1 ∈ wAll ∧
  (∀ K i r j, ∃ fl, ctR K F i r j = .inr (ci, fl) ∧ fl[q]? = some (.int (r q)) ∧ q < fl.length ∧ ∀ v, ctR K F i (upd r q v) j = .inr (ci, fl.set q (.int v))) ∧ (∀ k, k < N → parseFieldDescriptor (T k).2.2.1 = some (ty0 k)) ∧ (∀ a, a < N → ∀ b, b < N → a ≠ b → (T a).2.1 ≠ (T b).2.1) ∧ (T q).2.2.2 = fn ∧ parseFieldDescriptor (T q).2.2.1 = some ty
def FsR (own : String) (idx F q F2 : Nat) (g : Nat → Nat) : Prop := F < 72 ∧ ∃ (ci : Nat) (C : String) (T : u_T) (N : Nat), vwCl[ci]? = some (C, T, N) ∧ q < N ∧ (∀ w ∈ u_ws C T N, w ∈ wAll) ∧ Cond.fieldLink own idx (T q).1 (T q).2.1 (T q).2.2.1 ∈ wAll ∧
  (∀ K i r j, ∃ fl, ctR K F i r j = .inr (ci, fl) ∧ fl[q]? = some (.ref (aa K F2 (g i))))
def CsV (own : String) (idx : Nat) (y : MethodName) (b : ByteArray) (mL : Nat) (rt : Option FieldType) (na F : Nat) : Prop := F < 72 ∧ ∃ (ci : Nat) (T : u_T) (N : Nat), vwCl[ci]? = some (y.cls, T, N) ∧ (∀ K i r j, ∃ fl, ctR K F i r j = .inr (ci, fl)) ∧ GoodIn wAll (wsV own idx y.cls y (.code y b mL rt :: wAll)) ∧ (y.cls ≠ "java/lang/invoke/MethodHandle" ∧ y.cls ≠ "java/lang/invoke/VarHandle" ∧ (parseMethodDescriptor y.desc).map (fun d => d.parameters.length) = some na)
def CsS (own : String) (idx : Nat) (y : MethodName) (b : ByteArray) (mL : Nat) (rt : Option FieldType) (na : Nat) : Prop := GoodIn wAll (va_wsS own idx y (.code y b mL rt :: wAll)) ∧ (y.cls ≠ "java/lang/invoke/MethodHandle" ∧ y.cls ≠ "java/lang/invoke/VarHandle" ∧ (parseMethodDescriptor y.desc).map (fun d => d.parameters.length) = some na)
def Mx (own : String) (idx : Nat) (y : MethodName) (b : ByteArray) : Prop := Cond.methodLink own idx y ∈ wAll ∧ Cond.static y ∈ wAll ∧ Cond.initialized "java/lang/Math" ∈ wAll ∧ Cond.code y b 2 (some .int) ∈ wAll
def Ac (own : String) (idx : Nat) : Prop := Cond.methodLink own idx arraycopyName ∈ wAll ∧ Cond.native arraycopyName ∈ wAll ∧ Cond.static arraycopyName ∈ wAll ∧ Cond.initialized "java/lang/System" ∈ wAll
def Xs (own : String) (ik ic : Nat) (cls : String) (e : Nat) : Prop := exn e = cls ∧ Cond.classLink own ik cls ∈ wAll ∧ Cond.initialized cls ∈ wAll ∧ True
theorem ar_2 : ArI 2 24 := ⟨by decide, fun _ _ _ _ => rfl⟩
theorem ar_3 : ArI 3 24 := ⟨by decide, fun _ _ _ _ => rfl⟩
theorem ar_4 : ArI 4 24 := ⟨by decide, fun _ _ _ _ => rfl⟩
theorem ar_5 : ArA 5 7 3 "VillageMail$Timetable" 1 (fun i j => j) := ⟨by decide, fun _ => rfl, fun _ _ _ _ => rfl⟩
theorem ar_6 : ArA 6 12 4 "VillageMail$Store" 7 (fun i j => j) := ⟨by decide, fun _ => rfl, fun _ _ _ _ => rfl⟩
theorem ar_8 : ArI 8 64 := ⟨by decide, fun _ _ _ _ => rfl⟩
theorem ar_9 : ArI 9 64 := ⟨by decide, fun _ _ _ _ => rfl⟩
theorem ar_10 : ArJ 10 64 := ⟨by decide, fun _ _ _ _ => rfl⟩
theorem ar_11 : ArI 11 16 := ⟨by decide, fun _ _ _ _ => rfl⟩
theorem ar_12 : ArA 12 8 5 "VillageMail$Boxes" 13 (fun i j => j) := ⟨by decide, fun _ => rfl, fun _ _ _ _ => rfl⟩
theorem ar_14 : ArA 14 3 6 "VillageMail$Box" 16 (fun i j => (3 * i + j)) := ⟨by decide, fun _ => rfl, fun _ _ _ _ => rfl⟩
theorem ar_15 : ArI 15 2 := ⟨by decide, fun _ _ _ _ => rfl⟩
theorem ar_17 : ArI 17 16 := ⟨by decide, fun _ _ _ _ => rfl⟩
theorem ar_18 : ArA 18 16 7 "VillageMail$Letter" 19 (fun i j => j) := ⟨by decide, fun _ => rfl, fun _ _ _ _ => rfl⟩
theorem ar_20 : ArJ 20 4 := ⟨by decide, fun _ _ _ _ => rfl⟩
theorem ar_21 : ArJ 21 4 := ⟨by decide, fun _ _ _ _ => rfl⟩
theorem ar_23 : ArI 23 8 := ⟨by decide, fun _ _ _ _ => rfl⟩
theorem ar_24 : ArI 24 8 := ⟨by decide, fun _ _ _ _ => rfl⟩
theorem ar_25 : ArZ 25 4 := ⟨by decide, fun _ _ _ _ => rfl⟩
theorem ar_27 : ArI 27 24 := ⟨by decide, fun _ _ _ _ => rfl⟩
theorem ar_31 : ArI 31 192 := ⟨by decide, fun _ _ _ _ => rfl⟩
theorem ar_32 : ArI 32 192 := ⟨by decide, fun _ _ _ _ => rfl⟩
theorem ar_33 : ArI 33 192 := ⟨by decide, fun _ _ _ _ => rfl⟩
theorem ar_34 : ArI 34 8 := ⟨by decide, fun _ _ _ _ => rfl⟩
theorem ar_35 : ArI 35 12 := ⟨by decide, fun _ _ _ _ => rfl⟩
theorem ar_36 : ArI 36 16 := ⟨by decide, fun _ _ _ _ => rfl⟩
theorem ar_37 : ArI 37 16 := ⟨by decide, fun _ _ _ _ => rfl⟩
theorem ar_38 : ArI 38 16 := ⟨by decide, fun _ _ _ _ => rfl⟩
theorem ar_39 : ArI 39 16 := ⟨by decide, fun _ _ _ _ => rfl⟩
theorem ar_40 : ArI 40 16 := ⟨by decide, fun _ _ _ _ => rfl⟩
theorem ar_41 : ArI 41 16 := ⟨by decide, fun _ _ _ _ => rfl⟩
theorem ar_42 : ArI 42 16 := ⟨by decide, fun _ _ _ _ => rfl⟩
theorem ar_43 : ArI 43 16 := ⟨by decide, fun _ _ _ _ => rfl⟩
theorem ar_44 : ArZ 44 16 := ⟨by decide, fun _ _ _ _ => rfl⟩
theorem ar_45 : ArI 45 512 := ⟨by decide, fun _ _ _ _ => rfl⟩
theorem ar_46 : ArZ 46 768 := ⟨by decide, fun _ _ _ _ => rfl⟩
theorem ar_47 : ArI 47 768 := ⟨by decide, fun _ _ _ _ => rfl⟩
theorem ar_48 : ArI 48 768 := ⟨by decide, fun _ _ _ _ => rfl⟩
theorem ar_49 : ArI 49 6144 := ⟨by decide, fun _ _ _ _ => rfl⟩
theorem ar_50 : ArI 50 192 := ⟨by decide, fun _ _ _ _ => rfl⟩
theorem ar_51 : ArI 51 12 := ⟨by decide, fun _ _ _ _ => rfl⟩
theorem ar_52 : ArI 52 12 := ⟨by decide, fun _ _ _ _ => rfl⟩
theorem ar_53 : ArI 53 24 := ⟨by decide, fun _ _ _ _ => rfl⟩
theorem ar_54 : ArI 54 24 := ⟨by decide, fun _ _ _ _ => rfl⟩
theorem ar_55 : ArI 55 384 := ⟨by decide, fun _ _ _ _ => rfl⟩
theorem ar_56 : ArZ 56 48 := ⟨by decide, fun _ _ _ _ => rfl⟩
theorem ar_57 : ArI 57 32 := ⟨by decide, fun _ _ _ _ => rfl⟩
theorem ar_58 : ArZ 58 4 := ⟨by decide, fun _ _ _ _ => rfl⟩
theorem ar_59 : ArI 59 8 := ⟨by decide, fun _ _ _ _ => rfl⟩
theorem ar_60 : ArZ 60 128 := ⟨by decide, fun _ _ _ _ => rfl⟩
theorem ar_61 : ArI 61 8 := ⟨by decide, fun _ _ _ _ => rfl⟩
theorem ar_70 : ArJ 70 1 := ⟨by decide, fun _ _ _ _ => rfl⟩
def y_B_fits : MethodName := ⟨"VillageMail$Box", "fits", "(I)Z"⟩
abbrev b_B_fits : ByteArray := prog_2_method_2_code
def y_B_put : MethodName := ⟨"VillageMail$Box", "put", "(II)V"⟩
abbrev b_B_put : ByteArray := prog_2_method_3_code
def y_B_takeOut : MethodName := ⟨"VillageMail$Box", "takeOut", "(II)V"⟩
abbrev b_B_takeOut : ByteArray := prog_2_method_4_code
def y_C_toggle : MethodName := ⟨"VillageMail$Boxes", "toggle", "(II)Z"⟩
abbrev b_C_toggle : ByteArray := prog_3_method_2_code
def y_C_addressedBy : MethodName := ⟨"VillageMail$Boxes", "addressedBy", "(I)I"⟩
abbrev b_C_addressedBy : ByteArray := prog_3_method_3_code
def y_C_allFit : MethodName := ⟨"VillageMail$Boxes", "allFit", "(II)Z"⟩
abbrev b_C_allFit : ByteArray := prog_3_method_5_code
def y_C_putInto : MethodName := ⟨"VillageMail$Boxes", "putInto", "(III)Z"⟩
abbrev b_C_putInto : ByteArray := prog_3_method_4_code
def y_O_add : MethodName := ⟨"VillageMail$Offers", "add", "(I)V"⟩
abbrev b_O_add : ByteArray := prog_5_method_2_code
def y_T_find : MethodName := ⟨"VillageMail$Timetable", "find", "(II)I"⟩
abbrev b_T_find : ByteArray := prog_8_method_2_code
def y_T_set : MethodName := ⟨"VillageMail$Timetable", "set", "(IIII)V"⟩
abbrev b_T_set : ByteArray := prog_8_method_6_code
def y_T_insert : MethodName := ⟨"VillageMail$Timetable", "insert", "(III)V"⟩
abbrev b_T_insert : ByteArray := prog_8_method_3_code
def y_T_takeOut : MethodName := ⟨"VillageMail$Timetable", "takeOut", "(I)V"⟩
abbrev b_T_takeOut : ByteArray := prog_8_method_4_code
def y_T_become : MethodName := ⟨"VillageMail$Timetable", "become", "(LVillageMail$Timetable;)V"⟩
abbrev b_T_become : ByteArray := prog_8_method_5_code
def y_S_room : MethodName := ⟨"VillageMail$Store", "room", "()I"⟩
abbrev b_S_room : ByteArray := prog_7_method_2_code
def y_S_has : MethodName := ⟨"VillageMail$Store", "has", "(I)Z"⟩
abbrev b_S_has : ByteArray := prog_7_method_3_code
def y_S_countOf : MethodName := ⟨"VillageMail$Store", "countOf", "(I)I"⟩
abbrev b_S_countOf : ByteArray := prog_7_method_4_code
def y_S_take : MethodName := ⟨"VillageMail$Store", "take", "(IJI)V"⟩
abbrev b_S_take : ByteArray := prog_7_method_5_code
def y_S_free : MethodName := ⟨"VillageMail$Store", "free", "(I)V"⟩
abbrev b_S_free : ByteArray := prog_7_method_6_code
def y_S_freeAllOf : MethodName := ⟨"VillageMail$Store", "freeAllOf", "(I)V"⟩
abbrev b_S_freeAllOf : ByteArray := prog_7_method_7_code
def y_S_learnHops : MethodName := ⟨"VillageMail$Store", "learnHops", "(II)V"⟩
abbrev b_S_learnHops : ByteArray := prog_7_method_8_code
def y_S_unlearn : MethodName := ⟨"VillageMail$Store", "unlearn", "(I)V"⟩
abbrev b_S_unlearn : ByteArray := prog_7_method_9_code
def y_S_learnOf : MethodName := ⟨"VillageMail$Store", "learnOf", "(II)V"⟩
abbrev b_S_learnOf : ByteArray := prog_7_method_10_code
def y_S_forgetPieces : MethodName := ⟨"VillageMail$Store", "forgetPieces", "()V"⟩
abbrev b_S_forgetPieces : ByteArray := prog_7_method_11_code
def y_R_clear : MethodName := ⟨"VillageMail$Ride", "clear", "()V"⟩
abbrev b_R_clear : ByteArray := prog_6_method_4_code
def y_J_floorMod : MethodName := ⟨"java/lang/Math", "floorMod", "(II)I"⟩
abbrev b_J_floorMod : ByteArray := prog_15_method_50_code
def y_R_seeStop : MethodName := ⟨"VillageMail$Ride", "seeStop", "(III)V"⟩
abbrev b_R_seeStop : ByteArray := prog_6_method_6_code
def y_R_goBy : MethodName := ⟨"VillageMail$Ride", "goBy", "(LVillageMail$Timetable;II)V"⟩
abbrev b_R_goBy : ByteArray := prog_6_method_5_code
def y_R_startAtKiosk : MethodName := ⟨"VillageMail$Ride", "startAtKiosk", "(LVillageMail$Timetable;II)V"⟩
abbrev b_R_startAtKiosk : ByteArray := prog_6_method_2_code
def y_R_startOnBus : MethodName := ⟨"VillageMail$Ride", "startOnBus", "(LVillageMail$Timetable;II)V"⟩
abbrev b_R_startOnBus : ByteArray := prog_6_method_3_code
def y_X_isBus : MethodName := ⟨"VillageMail", "isBus", "(I)Z"⟩
abbrev b_X_isBus : ByteArray := prog_1_method_40_code
def y_X_demand : MethodName := ⟨"VillageMail", "demand", "(Z)V"⟩
abbrev b_X_demand : ByteArray := prog_1_method_36_code
def y_X_isWithin : MethodName := ⟨"VillageMail", "isWithin", "(II)Z"⟩
abbrev b_X_isWithin : ByteArray := prog_1_method_38_code
def y_X_isKiosk : MethodName := ⟨"VillageMail", "isKiosk", "(I)Z"⟩
abbrev b_X_isKiosk : ByteArray := prog_1_method_39_code
def y_X_stop : MethodName := ⟨"VillageMail", "stop", "(III)I"⟩
abbrev b_X_stop : ByteArray := prog_1_method_2_code
def y_X_cancel : MethodName := ⟨"VillageMail", "cancel", "(II)Z"⟩
abbrev b_X_cancel : ByteArray := prog_1_method_3_code
def y_X_publish : MethodName := ⟨"VillageMail", "publish", "()I"⟩
abbrev b_X_publish : ByteArray := prog_1_method_4_code
def y_X_arrival : MethodName := ⟨"VillageMail", "arrival", "(IIII)I"⟩
abbrev b_X_arrival : ByteArray := prog_1_method_6_code
def y_X_best : MethodName := ⟨"VillageMail", "best", "(III)I"⟩
abbrev b_X_best : ByteArray := prog_1_method_5_code
def y_X_isBox : MethodName := ⟨"VillageMail", "isBox", "(II)Z"⟩
abbrev b_X_isBox : ByteArray := prog_1_method_42_code
def y_X_piecesIn : MethodName := ⟨"VillageMail", "piecesIn", "(I)I"⟩
abbrev b_X_piecesIn : ByteArray := prog_1_method_43_code
def y_X_byteAt : MethodName := ⟨"VillageMail", "byteAt", "(JI)I"⟩
abbrev b_X_byteAt : ByteArray := prog_1_method_44_code
def y_X_sumOf : MethodName := ⟨"VillageMail", "sumOf", "([JI)I"⟩
abbrev b_X_sumOf : ByteArray := prog_1_method_46_code
def y_X_lookAt : MethodName := ⟨"VillageMail", "lookAt", "(I)V"⟩
abbrev b_X_lookAt : ByteArray := prog_1_method_22_code
def y_X_lookAtAllOf : MethodName := ⟨"VillageMail", "lookAtAllOf", "(I)V"⟩
abbrev b_X_lookAtAllOf : ByteArray := prog_1_method_21_code
def y_X_household : MethodName := ⟨"VillageMail", "household", "(III)V"⟩
abbrev b_X_household : ByteArray := prog_1_method_7_code
def y_X_group : MethodName := ⟨"VillageMail", "group", "(III)Z"⟩
abbrev b_X_group : ByteArray := prog_1_method_8_code
def y_X_box : MethodName := ⟨"VillageMail", "box", "(III)I"⟩
abbrev b_X_box : ByteArray := prog_1_method_9_code
def y_X_demandIndex : MethodName := ⟨"VillageMail", "demandIndex", "(II)V"⟩
abbrev b_X_demandIndex : ByteArray := prog_1_method_37_code
def y_X_read : MethodName := ⟨"VillageMail", "read", "(IIII)I"⟩
abbrev b_X_read : ByteArray := prog_1_method_10_code
def y_X_remove : MethodName := ⟨"VillageMail", "remove", "(III)I"⟩
abbrev b_X_remove : ByteArray := prog_1_method_11_code
def y_X_shifted : MethodName := ⟨"VillageMail", "shifted", "(II)J"⟩
abbrev b_X_shifted : ByteArray := prog_1_method_45_code
def y_X_key : MethodName := ⟨"VillageMail", "key", "(I)Z"⟩
abbrev b_X_key : ByteArray := prog_1_method_12_code
def y_X_handOverText : MethodName := ⟨"VillageMail", "handOverText", "(LVillageMail$Store;I)V"⟩
abbrev b_X_handOverText : ByteArray := prog_1_method_14_code
def y_X_post : MethodName := ⟨"VillageMail", "post", "(IIII)I"⟩
abbrev b_X_post : ByteArray := prog_1_method_13_code
def y_X_status : MethodName := ⟨"VillageMail", "status", "(I)I"⟩
abbrev b_X_status : ByteArray := prog_1_method_15_code
def y_X_custodians : MethodName := ⟨"VillageMail", "custodians", "(I)I"⟩
abbrev b_X_custodians : ByteArray := prog_1_method_16_code
def y_X_promise : MethodName := ⟨"VillageMail", "promise", "(I)I"⟩
abbrev b_X_promise : ByteArray := prog_1_method_17_code
def y_X_dropCopies : MethodName := ⟨"VillageMail", "dropCopies", "(IZ)V"⟩
abbrev b_X_dropCopies : ByteArray := prog_1_method_20_code
def y_X_expireWhatIsDue : MethodName := ⟨"VillageMail", "expireWhatIsDue", "()V"⟩
abbrev b_X_expireWhatIsDue : ByteArray := prog_1_method_19_code
def y_X_minute : MethodName := ⟨"VillageMail", "minute", "(I)I"⟩
abbrev b_X_minute : ByteArray := prog_1_method_18_code
def y_X_shareTimetable : MethodName := ⟨"VillageMail", "shareTimetable", "(LVillageMail$Store;LVillageMail$Store;)V"⟩
abbrev b_X_shareTimetable : ByteArray := prog_1_method_26_code
def y_X_firmer : MethodName := ⟨"VillageMail", "firmer", "(II)I"⟩
abbrev b_X_firmer : ByteArray := prog_1_method_28_code
def y_X_shareNews : MethodName := ⟨"VillageMail", "shareNews", "(LVillageMail$Store;LVillageMail$Store;)V"⟩
abbrev b_X_shareNews : ByteArray := prog_1_method_27_code
def y_X_offerPiecesOf : MethodName := ⟨"VillageMail", "offerPiecesOf", "(III)V"⟩
abbrev b_X_offerPiecesOf : ByteArray := prog_1_method_30_code
def y_X_settleOffers : MethodName := ⟨"VillageMail", "settleOffers", "(II)V"⟩
abbrev b_X_settleOffers : ByteArray := prog_1_method_29_code
def y_X_movePiece : MethodName := ⟨"VillageMail", "movePiece", "(ILVillageMail$Store;LVillageMail$Store;)Z"⟩
abbrev b_X_movePiece : ByteArray := prog_1_method_32_code
def y_X_moveOffered : MethodName := ⟨"VillageMail", "moveOffered", "(LVillageMail$Offers;III)I"⟩
abbrev b_X_moveOffered : ByteArray := prog_1_method_31_code
def y_X_hold : MethodName := ⟨"VillageMail", "hold", "(III)I"⟩
abbrev b_X_hold : ByteArray := prog_1_method_25_code
def y_X_meet : MethodName := ⟨"VillageMail", "meet", "(III)I"⟩
abbrev b_X_meet : ByteArray := prog_1_method_23_code
def y_X_breakOff : MethodName := ⟨"VillageMail", "breakOff", "(III)I"⟩
abbrev b_X_breakOff : ByteArray := prog_1_method_24_code
def y_X_isStore : MethodName := ⟨"VillageMail", "isStore", "(I)Z"⟩
abbrev b_X_isStore : ByteArray := prog_1_method_41_code
def y_X_reboot : MethodName := ⟨"VillageMail", "reboot", "(I)V"⟩
abbrev b_X_reboot : ByteArray := prog_1_method_33_code
def y_X_spoil : MethodName := ⟨"VillageMail", "spoil", "(IIIII)I"⟩
abbrev b_X_spoil : ByteArray := prog_1_method_34_code
def y_X_store : MethodName := ⟨"VillageMail", "store", "(II)I"⟩
abbrev b_X_store : ByteArray := prog_1_method_35_code
def y_M_thrown : MethodName := ⟨"VillageMailModel", "thrown", "()I"⟩
abbrev b_M_thrown : ByteArray := prog_10_method_2_code
def y_M_upTo : MethodName := ⟨"VillageMailModel", "upTo", "(II)Z"⟩
abbrev b_M_upTo : ByteArray := prog_10_method_3_code
def y_M_isKiosk : MethodName := ⟨"VillageMailModel", "isKiosk", "(I)Z"⟩
abbrev b_M_isKiosk : ByteArray := prog_10_method_4_code
def y_M_isBus : MethodName := ⟨"VillageMailModel", "isBus", "(I)Z"⟩
abbrev b_M_isBus : ByteArray := prog_10_method_5_code
def y_M_isLetter : MethodName := ⟨"VillageMailModel", "isLetter", "(I)Z"⟩
abbrev b_M_isLetter : ByteArray := prog_10_method_6_code
def y_M_stopAt : MethodName := ⟨"VillageMailModel", "stopAt", "(II)I"⟩
abbrev b_M_stopAt : ByteArray := prog_10_method_7_code
def y_M_copyStop : MethodName := ⟨"VillageMailModel", "copyStop", "(II)V"⟩
abbrev b_M_copyStop : ByteArray := prog_10_method_8_code
def y_M_stop : MethodName := ⟨"VillageMailModel", "stop", "(III)I"⟩
abbrev b_M_stop : ByteArray := prog_10_method_9_code
def y_M_cancel : MethodName := ⟨"VillageMailModel", "cancel", "(II)Z"⟩
abbrev b_M_cancel : ByteArray := prog_10_method_10_code
def y_M_publish : MethodName := ⟨"VillageMailModel", "publish", "()I"⟩
abbrev b_M_publish : ByteArray := prog_10_method_11_code
def y_M_nextStop : MethodName := ⟨"VillageMailModel", "nextStop", "(II)I"⟩
abbrev b_M_nextStop : ByteArray := prog_10_method_12_code
def y_M_passes : MethodName := ⟨"VillageMailModel", "passes", "(III)Z"⟩
abbrev b_M_passes : ByteArray := prog_10_method_13_code
def y_M_arrival : MethodName := ⟨"VillageMailModel", "arrival", "(IIII)I"⟩
abbrev b_M_arrival : ByteArray := prog_10_method_14_code
def y_M_earlier : MethodName := ⟨"VillageMailModel", "earlier", "(II)Z"⟩
abbrev b_M_earlier : ByteArray := prog_10_method_15_code
def y_M_best : MethodName := ⟨"VillageMailModel", "best", "(III)I"⟩
abbrev b_M_best : ByteArray := prog_10_method_16_code
def y_M_pieces : MethodName := ⟨"VillageMailModel", "pieces", "(I)I"⟩
abbrev b_M_pieces : ByteArray := prog_10_method_17_code
def y_M_at : MethodName := ⟨"VillageMailModel", "at", "(III)I"⟩
abbrev b_M_at : ByteArray := prog_10_method_18_code
def y_M_room : MethodName := ⟨"VillageMailModel", "room", "(I)I"⟩
abbrev b_M_room : ByteArray := prog_10_method_19_code
def y_M_hear : MethodName := ⟨"VillageMailModel", "hear", "(II)V"⟩
abbrev b_M_hear : ByteArray := prog_10_method_20_code
def y_M_learn : MethodName := ⟨"VillageMailModel", "learn", "(III)V"⟩
abbrev b_M_learn : ByteArray := prog_10_method_21_code
def y_M_bytesIn : MethodName := ⟨"VillageMailModel", "bytesIn", "(I)I"⟩
abbrev b_M_bytesIn : ByteArray := prog_10_method_22_code
def y_M_isFor : MethodName := ⟨"VillageMailModel", "isFor", "(II)Z"⟩
abbrev b_M_isFor : ByteArray := prog_10_method_23_code
def y_M_complete : MethodName := ⟨"VillageMailModel", "complete", "(I)Z"⟩
abbrev b_M_complete : ByteArray := prog_10_method_24_code
def y_M_turned : MethodName := ⟨"VillageMailModel", "turned", "(I)I"⟩
abbrev b_M_turned : ByteArray := prog_10_method_25_code
def y_M_byteOf : MethodName := ⟨"VillageMailModel", "byteOf", "(III)I"⟩
abbrev b_M_byteOf : ByteArray := prog_10_method_26_code
def y_M_lookAt : MethodName := ⟨"VillageMailModel", "lookAt", "(I)V"⟩
abbrev b_M_lookAt : ByteArray := prog_10_method_27_code
def y_M_lookAll : MethodName := ⟨"VillageMailModel", "lookAll", "(I)V"⟩
abbrev b_M_lookAll : ByteArray := prog_10_method_28_code
def y_M_household : MethodName := ⟨"VillageMailModel", "household", "(III)V"⟩
abbrev b_M_household : ByteArray := prog_10_method_29_code
def y_M_group : MethodName := ⟨"VillageMailModel", "group", "(III)Z"⟩
abbrev b_M_group : ByteArray := prog_10_method_30_code
def y_M_key : MethodName := ⟨"VillageMailModel", "key", "(I)Z"⟩
abbrev b_M_key : ByteArray := prog_10_method_31_code
def y_M_post : MethodName := ⟨"VillageMailModel", "post", "(IIII)I"⟩
abbrev b_M_post : ByteArray := prog_10_method_32_code
def y_M_expire : MethodName := ⟨"VillageMailModel", "expire", "(I)V"⟩
abbrev b_M_expire : ByteArray := prog_10_method_33_code
def y_M_minute : MethodName := ⟨"VillageMailModel", "minute", "(I)I"⟩
abbrev b_M_minute : ByteArray := prog_10_method_34_code
def y_M_exchangeNews : MethodName := ⟨"VillageMailModel", "exchangeNews", "(II)V"⟩
abbrev b_M_exchangeNews : ByteArray := prog_10_method_35_code
def y_M_settle : MethodName := ⟨"VillageMailModel", "settle", "(II)V"⟩
abbrev b_M_settle : ByteArray := prog_10_method_36_code
def y_M_move : MethodName := ⟨"VillageMailModel", "move", "(IIII)Z"⟩
abbrev b_M_move : ByteArray := prog_10_method_37_code
def y_M_give : MethodName := ⟨"VillageMailModel", "give", "(IIII)I"⟩
abbrev b_M_give : ByteArray := prog_10_method_38_code
def y_M_meeting : MethodName := ⟨"VillageMailModel", "meeting", "(III)I"⟩
abbrev b_M_meeting : ByteArray := prog_10_method_39_code
def y_M_meet : MethodName := ⟨"VillageMailModel", "meet", "(III)I"⟩
abbrev b_M_meet : ByteArray := prog_10_method_40_code
def y_M_breakOff : MethodName := ⟨"VillageMailModel", "breakOff", "(III)I"⟩
abbrev b_M_breakOff : ByteArray := prog_10_method_41_code
def y_M_reboot : MethodName := ⟨"VillageMailModel", "reboot", "(I)V"⟩
abbrev b_M_reboot : ByteArray := prog_10_method_42_code
def y_M_spoil : MethodName := ⟨"VillageMailModel", "spoil", "(IIIII)I"⟩
abbrev b_M_spoil : ByteArray := prog_10_method_43_code
def y_M_isBox : MethodName := ⟨"VillageMailModel", "isBox", "(II)Z"⟩
abbrev b_M_isBox : ByteArray := prog_10_method_44_code
def y_M_box : MethodName := ⟨"VillageMailModel", "box", "(III)I"⟩
abbrev b_M_box : ByteArray := prog_10_method_45_code
def y_M_read : MethodName := ⟨"VillageMailModel", "read", "(IIII)I"⟩
abbrev b_M_read : ByteArray := prog_10_method_46_code
def y_M_remove : MethodName := ⟨"VillageMailModel", "remove", "(III)I"⟩
abbrev b_M_remove : ByteArray := prog_10_method_47_code
def y_M_status : MethodName := ⟨"VillageMailModel", "status", "(I)I"⟩
abbrev b_M_status : ByteArray := prog_10_method_48_code
def y_M_custodians : MethodName := ⟨"VillageMailModel", "custodians", "(I)I"⟩
abbrev b_M_custodians : ByteArray := prog_10_method_49_code
def y_M_promise : MethodName := ⟨"VillageMailModel", "promise", "(I)I"⟩
abbrev b_M_promise : ByteArray := prog_10_method_50_code
def y_M_store : MethodName := ⟨"VillageMailModel", "store", "(II)I"⟩
abbrev b_M_store : ByteArray := prog_10_method_51_code
def y_A_fill : MethodName := ⟨"java/util/Arrays", "fill", "([II)V"⟩
abbrev b_A_fill : ByteArray := prog_19_method_103_code
def y_A_fillJ : MethodName := ⟨"java/util/Arrays", "fill", "([JJ)V"⟩
abbrev b_A_fillJ : ByteArray := prog_19_method_101_code
end
section
section VRows
variable {K : KK} {Γ : Cx} {cc : ByteArray} {own : String} {nL fr lo n : Nat} {σ : Mem} {pc : Nat} {L : List (Nat × Value)} {S : List Value} {fin : Oc × Mem}
theorem ww_iadd {x y : Int32} (G : Good K Γ cc own nL fr lo) (d : decode cc pc = .ok (.iadd, 1))  (k : WW K Γ n σ (pc + 1) L (.int (x + y) :: S)) : WW K Γ n σ pc L (.int y :: .int x :: S) := by
  obtain ⟨p, l, e, R, s, m, args, below, meth, c, Q, c0, s0⟩ := Γ
  obtain ⟨hx, hb, hml, hown, hts, hK, hR, hlk, hz, hst, hU, hN⟩ := G
  intro H locs ls hl hP hD hS
  exact lv_iadd hx hb d (k H locs ls hl hP hD hS)
theorem ww_isub {x y : Int32} (G : Good K Γ cc own nL fr lo) (d : decode cc pc = .ok (.isub, 1))  (k : WW K Γ n σ (pc + 1) L (.int (x - y) :: S)) : WW K Γ n σ pc L (.int y :: .int x :: S) := by
  obtain ⟨p, l, e, R, s, m, args, below, meth, c, Q, c0, s0⟩ := Γ
  obtain ⟨hx, hb, hml, hown, hts, hK, hR, hlk, hz, hst, hU, hN⟩ := G
  intro H locs ls hl hP hD hS
  exact lv_isub hx hb d (k H locs ls hl hP hD hS)
theorem ww_imul {x y : Int32} (G : Good K Γ cc own nL fr lo) (d : decode cc pc = .ok (.imul, 1))  (k : WW K Γ n σ (pc + 1) L (.int (x * y) :: S)) : WW K Γ n σ pc L (.int y :: .int x :: S) := by
  obtain ⟨p, l, e, R, s, m, args, below, meth, c, Q, c0, s0⟩ := Γ
  obtain ⟨hx, hb, hml, hown, hts, hK, hR, hlk, hz, hst, hU, hN⟩ := G
  intro H locs ls hl hP hD hS
  exact lv_imul hx hb d (k H locs ls hl hP hD hS)
theorem ww_iand {x y : Int32} (G : Good K Γ cc own nL fr lo) (d : decode cc pc = .ok (.iand, 1))  (k : WW K Γ n σ (pc + 1) L (.int (x &&& y) :: S)) : WW K Γ n σ pc L (.int y :: .int x :: S) := by
  obtain ⟨p, l, e, R, s, m, args, below, meth, c, Q, c0, s0⟩ := Γ
  obtain ⟨hx, hb, hml, hown, hts, hK, hR, hlk, hz, hst, hU, hN⟩ := G
  intro H locs ls hl hP hD hS
  exact lv_iand hx hb d (k H locs ls hl hP hD hS)
theorem ww_ior {x y : Int32} (G : Good K Γ cc own nL fr lo) (d : decode cc pc = .ok (.ior, 1))  (k : WW K Γ n σ (pc + 1) L (.int (x ||| y) :: S)) : WW K Γ n σ pc L (.int y :: .int x :: S) := by
  obtain ⟨p, l, e, R, s, m, args, below, meth, c, Q, c0, s0⟩ := Γ
  obtain ⟨hx, hb, hml, hown, hts, hK, hR, hlk, hz, hst, hU, hN⟩ := G
  intro H locs ls hl hP hD hS
  exact lv_ior hx hb d (k H locs ls hl hP hD hS)
theorem ww_ixor {x y : Int32} (G : Good K Γ cc own nL fr lo) (d : decode cc pc = .ok (.ixor, 1))  (k : WW K Γ n σ (pc + 1) L (.int (x ^^^ y) :: S)) : WW K Γ n σ pc L (.int y :: .int x :: S) := by
  obtain ⟨p, l, e, R, s, m, args, below, meth, c, Q, c0, s0⟩ := Γ
  obtain ⟨hx, hb, hml, hown, hts, hK, hR, hlk, hz, hst, hU, hN⟩ := G
  intro H locs ls hl hP hD hS
  exact lv_ixor hx hb d (k H locs ls hl hP hD hS)
theorem ww_land {x y : Int64} (G : Good K Γ cc own nL fr lo) (d : decode cc pc = .ok (.land, 1))  (k : WW K Γ n σ (pc + 1) L (.long (x &&& y) :: S)) : WW K Γ n σ pc L (.long y :: .long x :: S) := by
  obtain ⟨p, l, e, R, s, m, args, below, meth, c, Q, c0, s0⟩ := Γ
  obtain ⟨hx, hb, hml, hown, hts, hK, hR, hlk, hz, hst, hU, hN⟩ := G
  intro H locs ls hl hP hD hS
  exact lv_land hx hb d (k H locs ls hl hP hD hS)
theorem ww_lxor {x y : Int64} (G : Good K Γ cc own nL fr lo) (d : decode cc pc = .ok (.lxor, 1))  (k : WW K Γ n σ (pc + 1) L (.long (x ^^^ y) :: S)) : WW K Γ n σ pc L (.long y :: .long x :: S) := by
  obtain ⟨p, l, e, R, s, m, args, below, meth, c, Q, c0, s0⟩ := Γ
  obtain ⟨hx, hb, hml, hown, hts, hK, hR, hlk, hz, hst, hU, hN⟩ := G
  intro H locs ls hl hP hD hS
  exact lv_lxor hx hb d (k H locs ls hl hP hD hS)
theorem ww_ishl {x y : Int32} (G : Good K Γ cc own nL fr lo) (d : decode cc pc = .ok (.ishl, 1))  (k : WW K Γ n σ (pc + 1) L (.int (mm_ishl x y) :: S)) : WW K Γ n σ pc L (.int y :: .int x :: S) := by
  obtain ⟨p, l, e, R, s, m, args, below, meth, c, Q, c0, s0⟩ := Γ
  obtain ⟨hx, hb, hml, hown, hts, hK, hR, hlk, hz, hst, hU, hN⟩ := G
  intro H locs ls hl hP hD hS
  exact lv_ishl hx hb d (k H locs ls hl hP hD hS)
theorem ww_ishr {x y : Int32} (G : Good K Γ cc own nL fr lo) (d : decode cc pc = .ok (.ishr, 1))  (k : WW K Γ n σ (pc + 1) L (.int (mm_ishr x y) :: S)) : WW K Γ n σ pc L (.int y :: .int x :: S) := by
  obtain ⟨p, l, e, R, s, m, args, below, meth, c, Q, c0, s0⟩ := Γ
  obtain ⟨hx, hb, hml, hown, hts, hK, hR, hlk, hz, hst, hU, hN⟩ := G
  intro H locs ls hl hP hD hS
  exact lv_ishr hx hb d (k H locs ls hl hP hD hS)
theorem ww_iushr {x y : Int32} (G : Good K Γ cc own nL fr lo) (d : decode cc pc = .ok (.iushr, 1))  (k : WW K Γ n σ (pc + 1) L (.int (mm_iushr x y) :: S)) : WW K Γ n σ pc L (.int y :: .int x :: S) := by
  obtain ⟨p, l, e, R, s, m, args, below, meth, c, Q, c0, s0⟩ := Γ
  obtain ⟨hx, hb, hml, hown, hts, hK, hR, hlk, hz, hst, hU, hN⟩ := G
  intro H locs ls hl hP hD hS
  exact lv_iushr hx hb d rfl (k H locs ls hl hP hD hS)
theorem ww_lshl {x : Int64} {y : Int32} (G : Good K Γ cc own nL fr lo) (d : decode cc pc = .ok (.lshl, 1))  (k : WW K Γ n σ (pc + 1) L (.long (mm_lshl x y) :: S)) : WW K Γ n σ pc L (.int y :: .long x :: S) := by
  obtain ⟨p, l, e, R, s, m, args, below, meth, c, Q, c0, s0⟩ := Γ
  obtain ⟨hx, hb, hml, hown, hts, hK, hR, hlk, hz, hst, hU, hN⟩ := G
  intro H locs ls hl hP hD hS
  exact lv_lshl hx hb d rfl (k H locs ls hl hP hD hS)
theorem ww_lushr {x : Int64} {y : Int32} (G : Good K Γ cc own nL fr lo) (d : decode cc pc = .ok (.lushr, 1))  (k : WW K Γ n σ (pc + 1) L (.long (mm_lushr x y) :: S)) : WW K Γ n σ pc L (.int y :: .long x :: S) := by
  obtain ⟨p, l, e, R, s, m, args, below, meth, c, Q, c0, s0⟩ := Γ
  obtain ⟨hx, hb, hml, hown, hts, hK, hR, hlk, hz, hst, hU, hN⟩ := G
  intro H locs ls hl hP hD hS
  exact lv_lushr hx hb d rfl (k H locs ls hl hP hD hS)
theorem ww_l2i {x : Int64} (G : Good K Γ cc own nL fr lo) (d : decode cc pc = .ok (.l2i, 1))  (k : WW K Γ n σ (pc + 1) L (.int x.toInt32 :: S)) : WW K Γ n σ pc L (.long x :: S) := by
  obtain ⟨p, l, e, R, s, m, args, below, meth, c, Q, c0, s0⟩ := Γ
  obtain ⟨hx, hb, hml, hown, hts, hK, hR, hlk, hz, hst, hU, hN⟩ := G
  intro H locs ls hl hP hD hS
  exact lv_l2i hx hb d rfl (k H locs ls hl hP hD hS)
theorem ww_i2l {x : Int32} (G : Good K Γ cc own nL fr lo) (d : decode cc pc = .ok (.i2l, 1))  (k : WW K Γ n σ (pc + 1) L (.long x.toInt64 :: S)) : WW K Γ n σ pc L (.int x :: S) := by
  obtain ⟨p, l, e, R, s, m, args, below, meth, c, Q, c0, s0⟩ := Γ
  obtain ⟨hx, hb, hml, hown, hts, hK, hR, hlk, hz, hst, hU, hN⟩ := G
  intro H locs ls hl hP hD hS
  exact lv_i2l hx hb d rfl (k H locs ls hl hP hD hS)
theorem ww_lcmp {x y : Int64} (G : Good K Γ cc own nL fr lo) (d : decode cc pc = .ok (.lcmp, 1))  (k : WW K Γ n σ (pc + 1) L (.int (lg_cmp x y) :: S)) : WW K Γ n σ pc L (.long y :: .long x :: S) := by
  obtain ⟨p, l, e, R, s, m, args, below, meth, c, Q, c0, s0⟩ := Γ
  obtain ⟨hx, hb, hml, hown, hts, hK, hR, hlk, hz, hst, hU, hN⟩ := G
  intro H locs ls hl hP hD hS
  exact W.lcmp hx hb d (k H locs ls hl hP hD hS)
theorem ww_idiv {x y : Int32} (G : Good K Γ cc own nL fr lo) (d : decode cc pc = .ok (.idiv, 1)) (hne : ¬ y = 0) (k : WW K Γ n σ (pc + 1) L (.int (x / y) :: S)) : WW K Γ n σ pc L (.int y :: .int x :: S) := by
  obtain ⟨p, l, e, R, s, m, args, below, meth, c, Q, c0, s0⟩ := Γ
  obtain ⟨hx, hb, hml, hown, hts, hK, hR, hlk, hz, hst, hU, hN⟩ := G
  intro H locs ls hl hP hD hS
  exact lv_idiv hx hb d hne (k H locs ls hl hP hD hS)
theorem ww_irem {x y : Int32} (G : Good K Γ cc own nL fr lo) (d : decode cc pc = .ok (.irem, 1)) (hne : ¬ y = 0) (k : WW K Γ n σ (pc + 1) L (.int (mm_irem x y) :: S)) : WW K Γ n σ pc L (.int y :: .int x :: S) := by
  obtain ⟨p, l, e, R, s, m, args, below, meth, c, Q, c0, s0⟩ := Γ
  obtain ⟨hx, hb, hml, hown, hts, hK, hR, hlk, hz, hst, hU, hN⟩ := G
  intro H locs ls hl hP hD hS
  exact lv_irem hx hb d hne (k H locs ls hl hP hD hS)
theorem ww_idivz {x y : Int32} {A : RR} (G : Good K Γ cc own nL fr lo) (d : decode cc pc = .ok (.idiv, 1)) (h : mm_nz y A = some fin) (k : A = some fin → WW K Γ n σ (pc + 1) L (.int (x / y) :: S)) : WW K Γ n σ pc L (.int y :: .int x :: S) := by
  by_cases hy : y = 0
  · rw [mm_nz, if_pos hy] at h; exact nomatch h
  · rw [mm_nz, if_neg hy] at h; exact ww_idiv G d hy (k h)
theorem ww_iremz {x y : Int32} {A : RR} (G : Good K Γ cc own nL fr lo) (d : decode cc pc = .ok (.irem, 1)) (h : mm_nz y A = some fin) (k : A = some fin → WW K Γ n σ (pc + 1) L (.int (mm_irem x y) :: S)) : WW K Γ n σ pc L (.int y :: .int x :: S) := by
  by_cases hy : y = 0
  · rw [mm_nz, if_pos hy] at h; exact nomatch h
  · rw [mm_nz, if_neg hy] at h; exact ww_irem G d hy (k h)
theorem ww_iconst {v : Int32} {q : Int} (G : Good K Γ cc own nL fr lo) (d : decode cc pc = .ok (.iconst q, 1)) (hv : Int32.ofInt q = v) (k : WW K Γ n σ (pc + 1) L (.int v :: S)) : WW K Γ n σ pc L (S) := by
  obtain ⟨p, l, e, R, s, m, args, below, meth, c, Q, c0, s0⟩ := Γ
  obtain ⟨hx, hb, hml, hown, hts, hK, hR, hlk, hz, hst, hU, hN⟩ := G
  intro H locs ls hl hP hD hS
  exact lv_iconst hx hb d hv (k H locs ls hl hP hD hS)
theorem ww_bipush {v : Int32} {q : Int} (G : Good K Γ cc own nL fr lo) (d : decode cc pc = .ok (.bipush q, 2)) (hv : (Int8.ofInt q).toInt32 = v) (k : WW K Γ n σ (pc + 2) L (.int v :: S)) : WW K Γ n σ pc L (S) := by
  obtain ⟨p, l, e, R, s, m, args, below, meth, c, Q, c0, s0⟩ := Γ
  obtain ⟨hx, hb, hml, hown, hts, hK, hR, hlk, hz, hst, hU, hN⟩ := G
  intro H locs ls hl hP hD hS
  exact lv_bipush hx hb d hv (k H locs ls hl hP hD hS)
theorem ww_sipush {v : Int32} {q : Int} (G : Good K Γ cc own nL fr lo) (d : decode cc pc = .ok (.sipush q, 3)) (hv : (Int16.ofInt q).toInt32 = v) (k : WW K Γ n σ (pc + 3) L (.int v :: S)) : WW K Γ n σ pc L (S) := by
  obtain ⟨p, l, e, R, s, m, args, below, meth, c, Q, c0, s0⟩ := Γ
  obtain ⟨hx, hb, hml, hown, hts, hK, hR, hlk, hz, hst, hU, hN⟩ := G
  intro H locs ls hl hP hD hS
  exact lv_sipush hx hb d hv (k H locs ls hl hP hD hS)
theorem ww_lconst {v : Int64} {q : Fin 2} (G : Good K Γ cc own nL fr lo) (d : decode cc pc = .ok (.lconst q, 1)) (hv : Int64.ofNat (q : Nat) = v) (k : WW K Γ n σ (pc + 1) L (.long v :: S)) : WW K Γ n σ pc L (S) := by
  obtain ⟨p, l, e, R, s, m, args, below, meth, c, Q, c0, s0⟩ := Γ
  obtain ⟨hx, hb, hml, hown, hts, hK, hR, hlk, hz, hst, hU, hN⟩ := G
  intro H locs ls hl hP hD hS
  exact lv_lconst hx hb d hv (k H locs ls hl hP hD hS)
theorem ww_ldc {v : Int32} {index : Nat} (G : Good K Γ cc own nL fr lo) (d : decode cc pc = .ok (.ldc index, 2)) (hw : Cond.constant own index v ∈ wAll) (k : WW K Γ n σ (pc + 2) L (.int v :: S)) : WW K Γ n σ pc L (S) := by
  obtain ⟨p, l, e, R, s, m, args, below, meth, c, Q, c0, s0⟩ := Γ
  obtain ⟨hx, hb, hml, hown, hts, hK, hR, hlk, hz, hst, hU, hN⟩ := G
  intro H locs ls hl hP hD hS
  exact lv_ldc hx hb hown (hts _ hw) d (k H locs ls hl hP hD hS)
theorem ww_ldc2 {v : Int64} {index : Nat} (G : Good K Γ cc own nL fr lo) (d : decode cc pc = .ok (.ldc2_w index, 3)) (hw : Cond.constantLong own index v ∈ wAll) (k : WW K Γ n σ (pc + 3) L (.long v :: S)) : WW K Γ n σ pc L (S) := by
  obtain ⟨p, l, e, R, s, m, args, below, meth, c, Q, c0, s0⟩ := Γ
  obtain ⟨hx, hb, hml, hown, hts, hK, hR, hlk, hz, hst, hU, hN⟩ := G
  intro H locs ls hl hP hD hS
  exact lv_ldc2 hx hb hown (hts _ hw) d (k H locs ls hl hP hD hS)
theorem ww_dup {v : Value} (G : Good K Γ cc own nL fr lo) (d : decode cc pc = .ok (.dup, 1)) (hv : v.category = 1) (k : WW K Γ n σ (pc + 1) L (v :: v :: S)) : WW K Γ n σ pc L (v :: S) := by
  obtain ⟨p, l, e, R, s, m, args, below, meth, c, Q, c0, s0⟩ := Γ
  obtain ⟨hx, hb, hml, hown, hts, hK, hR, hlk, hz, hst, hU, hN⟩ := G
  intro H locs ls hl hP hD hS
  exact lv_dup hx hb d hv (k H locs ls hl hP hD hS)
theorem ww_pop {v : Value} (G : Good K Γ cc own nL fr lo) (d : decode cc pc = .ok (.pop, 1)) (hv : v.category = 1) (k : WW K Γ n σ (pc + 1) L (S)) : WW K Γ n σ pc L (v :: S) := by
  obtain ⟨p, l, e, R, s, m, args, below, meth, c, Q, c0, s0⟩ := Γ
  obtain ⟨hx, hb, hml, hown, hts, hK, hR, hlk, hz, hst, hU, hN⟩ := G
  intro H locs ls hl hP hD hS
  exact lv_pop hx hb d hv (k H locs ls hl hP hD hS)
theorem ww_dup2 {v w : Value} (G : Good K Γ cc own nL fr lo) (d : decode cc pc = .ok (.dup2, 1)) (hv : v.category = 1) (hw : w.category = 1) (k : WW K Γ n σ (pc + 1) L (v :: w :: v :: w :: S)) : WW K Γ n σ pc L (v :: w :: S) := by
  obtain ⟨p, l, e, R, s, m, args, below, meth, c, Q, c0, s0⟩ := Γ
  obtain ⟨hx, hb, hml, hown, hts, hK, hR, hlk, hz, hst, hU, hN⟩ := G
  intro H locs ls hl hP hD hS
  exact lv_dup2_11 hx hb d hv hw (k H locs ls hl hP hD hS)
theorem ww_iload_n (q : Nat) {i : Nat} {k4 : Fin 4} {x : Int32} (G : Good K Γ cc own nL fr lo) (d : decode cc pc = .ok (.iload_n k4, 1)) (hi : (k4 : Nat) = i) (hq : L[q]? = some (i, .int x)) (k : WW K Γ n σ (pc + 1) L (.int x :: S)) : WW K Γ n σ pc L S := by
  obtain ⟨p, l, e, R, s, m, args, below, meth, c, Q, c0, s0⟩ := Γ
  obtain ⟨hx, hb, hml, hown, hts, hK, hR, hlk, hz, hst, hU, hN⟩ := G
  intro H locs ls hl hP hD hS
  exact lv_iload_n hx hb d hi (lv_at hl q hq) (k H locs ls hl hP hD hS)
theorem ww_iload (q : Nat) {i : Nat} {x : Int32} (G : Good K Γ cc own nL fr lo) (d : decode cc pc = .ok (.iload i, 2)) (hq : L[q]? = some (i, .int x)) (k : WW K Γ n σ (pc + 2) L (.int x :: S)) : WW K Γ n σ pc L S := by
  obtain ⟨p, l, e, R, s, m, args, below, meth, c, Q, c0, s0⟩ := Γ
  obtain ⟨hx, hb, hml, hown, hts, hK, hR, hlk, hz, hst, hU, hN⟩ := G
  intro H locs ls hl hP hD hS
  exact lv_iload hx hb d (lv_at hl q hq) (k H locs ls hl hP hD hS)
theorem ww_istore_n {L' : List (Nat × Value)} {i : Nat} {k4 : Fin 4} {x : Int32} (G : Good K Γ cc own nL fr lo) (d : decode cc pc = .ok (.istore_n k4, 1)) (hi : (k4 : Nat) = i) (hn : i < nL) (hq : (i, Value.int x) :: L.filter (fun q => !(q.1 == i) && !(q.1 + 1 == i && q.2.category == 2)) = L') (k : WW K Γ n σ (pc + 1) L' S) : WW K Γ n σ pc L (.int x :: S) := by
  obtain ⟨p, l, e, R, s, m, args, below, meth, c, Q, c0, s0⟩ := Γ
  obtain ⟨hx, hb, hml, hown, hts, hK, hR, hlk, hz, hst, hU, hN⟩ := G
  intro H locs ls hl hP hD hS
  exact lv_istore_n hx hb d hi hl (hml ▸ hn) hq (fun ls' hl' => k H locs ls' hl' hP hD hS)
theorem ww_istore {L' : List (Nat × Value)} {i : Nat} {x : Int32} (G : Good K Γ cc own nL fr lo) (d : decode cc pc = .ok (.istore i, 2)) (hn : i < nL) (hq : (i, Value.int x) :: L.filter (fun q => !(q.1 == i) && !(q.1 + 1 == i && q.2.category == 2)) = L') (k : WW K Γ n σ (pc + 2) L' S) : WW K Γ n σ pc L (.int x :: S) := by
  obtain ⟨p, l, e, R, s, m, args, below, meth, c, Q, c0, s0⟩ := Γ
  obtain ⟨hx, hb, hml, hown, hts, hK, hR, hlk, hz, hst, hU, hN⟩ := G
  intro H locs ls hl hP hD hS
  exact lv_istore hx hb d hl (hml ▸ hn) hq (fun ls' hl' => k H locs ls' hl' hP hD hS)
theorem ww_aload_n (q : Nat) {i : Nat} {k4 : Fin 4} {x : Nat} (G : Good K Γ cc own nL fr lo) (d : decode cc pc = .ok (.aload_n k4, 1)) (hi : (k4 : Nat) = i) (hq : L[q]? = some (i, .ref x)) (k : WW K Γ n σ (pc + 1) L (.ref x :: S)) : WW K Γ n σ pc L S := by
  obtain ⟨p, l, e, R, s, m, args, below, meth, c, Q, c0, s0⟩ := Γ
  obtain ⟨hx, hb, hml, hown, hts, hK, hR, hlk, hz, hst, hU, hN⟩ := G
  intro H locs ls hl hP hD hS
  exact lv_aload_n hx hb d hi (lv_at hl q hq) (k H locs ls hl hP hD hS)
theorem ww_aload (q : Nat) {i : Nat} {x : Nat} (G : Good K Γ cc own nL fr lo) (d : decode cc pc = .ok (.aload i, 2)) (hq : L[q]? = some (i, .ref x)) (k : WW K Γ n σ (pc + 2) L (.ref x :: S)) : WW K Γ n σ pc L S := by
  obtain ⟨p, l, e, R, s, m, args, below, meth, c, Q, c0, s0⟩ := Γ
  obtain ⟨hx, hb, hml, hown, hts, hK, hR, hlk, hz, hst, hU, hN⟩ := G
  intro H locs ls hl hP hD hS
  exact lv_aload hx hb d (lv_at hl q hq) (k H locs ls hl hP hD hS)
theorem ww_astore_n {L' : List (Nat × Value)} {i : Nat} {k4 : Fin 4} {x : Nat} (G : Good K Γ cc own nL fr lo) (d : decode cc pc = .ok (.astore_n k4, 1)) (hi : (k4 : Nat) = i) (hn : i < nL) (hq : (i, Value.ref x) :: L.filter (fun q => !(q.1 == i) && !(q.1 + 1 == i && q.2.category == 2)) = L') (k : WW K Γ n σ (pc + 1) L' S) : WW K Γ n σ pc L (.ref x :: S) := by
  obtain ⟨p, l, e, R, s, m, args, below, meth, c, Q, c0, s0⟩ := Γ
  obtain ⟨hx, hb, hml, hown, hts, hK, hR, hlk, hz, hst, hU, hN⟩ := G
  intro H locs ls hl hP hD hS
  exact lv_astore_n hx hb d hi hl (hml ▸ hn) hq (fun ls' hl' => k H locs ls' hl' hP hD hS)
theorem ww_astore {L' : List (Nat × Value)} {i : Nat} {x : Nat} (G : Good K Γ cc own nL fr lo) (d : decode cc pc = .ok (.astore i, 2)) (hn : i < nL) (hq : (i, Value.ref x) :: L.filter (fun q => !(q.1 == i) && !(q.1 + 1 == i && q.2.category == 2)) = L') (k : WW K Γ n σ (pc + 2) L' S) : WW K Γ n σ pc L (.ref x :: S) := by
  obtain ⟨p, l, e, R, s, m, args, below, meth, c, Q, c0, s0⟩ := Γ
  obtain ⟨hx, hb, hml, hown, hts, hK, hR, hlk, hz, hst, hU, hN⟩ := G
  intro H locs ls hl hP hD hS
  exact lv_astore hx hb d hl (hml ▸ hn) hq (fun ls' hl' => k H locs ls' hl' hP hD hS)
theorem ww_lload_n (q : Nat) {i : Nat} {k4 : Fin 4} {x : Int64} (G : Good K Γ cc own nL fr lo) (d : decode cc pc = .ok (.lload_n k4, 1)) (hi : (k4 : Nat) = i) (hq : L[q]? = some (i, .long x)) (k : WW K Γ n σ (pc + 1) L (.long x :: S)) : WW K Γ n σ pc L S := by
  obtain ⟨p, l, e, R, s, m, args, below, meth, c, Q, c0, s0⟩ := Γ
  obtain ⟨hx, hb, hml, hown, hts, hK, hR, hlk, hz, hst, hU, hN⟩ := G
  intro H locs ls hl hP hD hS
  exact lv_lload_n hx hb d hi (lv_at hl q hq) (k H locs ls hl hP hD hS)
theorem ww_lload (q : Nat) {i : Nat} {x : Int64} (G : Good K Γ cc own nL fr lo) (d : decode cc pc = .ok (.lload i, 2)) (hq : L[q]? = some (i, .long x)) (k : WW K Γ n σ (pc + 2) L (.long x :: S)) : WW K Γ n σ pc L S := by
  obtain ⟨p, l, e, R, s, m, args, below, meth, c, Q, c0, s0⟩ := Γ
  obtain ⟨hx, hb, hml, hown, hts, hK, hR, hlk, hz, hst, hU, hN⟩ := G
  intro H locs ls hl hP hD hS
  exact lv_lload hx hb d (lv_at hl q hq) (k H locs ls hl hP hD hS)
theorem ww_iinc (q : Nat) {L' : List (Nat × Value)} {i : Nat} {z : Int} {x w : Int32} (G : Good K Γ cc own nL fr lo) (d : decode cc pc = .ok (.iinc i z, 3)) (hq : L[q]? = some (i, .int x)) (hw : Int32.ofInt z = w) (hn : i < nL) (hf : (i, Value.int (x + w)) :: L.filter (fun q => !(q.1 == i) && !(q.1 + 1 == i && q.2.category == 2)) = L') (k : WW K Γ n σ (pc + 3) L' S) : WW K Γ n σ pc L S := by
  obtain ⟨p, l, e, R, s, m, args, below, meth, c, Q, c0, s0⟩ := Γ
  obtain ⟨hx, hb, hml, hown, hts, hK, hR, hlk, hz, hst, hU, hN⟩ := G
  intro H locs ls hl hP hD hS
  exact lv_iinc hx hb d hl hq (by rw [hw]) (hml ▸ hn) hf (fun ls' hl' => k H locs ls' hl' hP hD hS)
theorem ww_iincW (q : Nat) {L' : List (Nat × Value)} {i : Nat} {z : Int} {x w : Int32} (G : Good K Γ cc own nL fr lo) (d : decode cc pc = .ok (.iinc i z, 6)) (hq : L[q]? = some (i, .int x)) (hw : Int32.ofInt z = w) (hn : i < nL) (hf : (i, Value.int (x + w)) :: L.filter (fun q => !(q.1 == i) && !(q.1 + 1 == i && q.2.category == 2)) = L') (k : WW K Γ n σ (pc + 6) L' S) : WW K Γ n σ pc L S := by
  obtain ⟨p, l, e, R, s, m, args, below, meth, c, Q, c0, s0⟩ := Γ
  obtain ⟨hx, hb, hml, hown, hts, hK, hR, hlk, hz, hst, hU, hN⟩ := G
  intro H locs ls hl hP hD hS
  exact lv_iincW hx hb d hl hq (by rw [hw]) (hml ▸ hn) hf (fun ls' hl' => k H locs ls' hl' hP hD hS)
theorem ww_sub {L' : List (Nat × Value)} (ks : List Nat) (hl' : lv_pick L ks = L') (k : WW K Γ n σ pc L' S) : WW K Γ n σ pc L S := by
  obtain ⟨p, l, e, R, s, m, args, below, meth, c, Q, c0, s0⟩ := Γ
  intro H locs ls hl hP hD hS
  exact k H locs ls (lv_sub hl ks hl') hP hD hS
theorem ww_goto {off : Int} {tgt : Nat} (G : Good K Γ cc own nL fr lo) (d : decode cc pc = .ok (.goto off, 3)) (ht : (pc : Int) + off = (tgt : Int)) (k : WW K Γ n σ tgt L S) : WW K Γ n σ pc L S := by
  obtain ⟨p, l, e, R, s, m, args, below, meth, c, Q, c0, s0⟩ := Γ
  obtain ⟨hx, hb, hml, hown, hts, hK, hR, hlk, hz, hst, hU, hN⟩ := G
  intro H locs ls hl hP hD hS
  exact lv_goto hx hb d ht (k H locs ls hl hP hD hS)
theorem ww_icmpeq {x y : Int32} {off : Int} {tgt : Nat} {A B : RR} (G : Good K Γ cc own nL fr lo) (d : decode cc pc = .ok (.if_icmp .eq off, 3)) (ht : (pc : Int) + off = (tgt : Int)) (h : (if x = y then A else B) = some fin) (kt : A = some fin → WW K Γ n σ tgt L S) (kf : B = some fin → WW K Γ n σ (pc + 3) L S) : WW K Γ n σ pc L (.int y :: .int x :: S) := by
  obtain ⟨p, l, e, R, s, m, args, below, meth, c, Q, c0, s0⟩ := Γ
  obtain ⟨hx, hb, hml, hown, hts, hK, hR, hlk, hz, hst, hU, hN⟩ := G
  intro H locs ls hl hP hD hS
  exact lv_icmp_eq hx hb d ht (fun hc => kt (by rw [if_pos hc] at h; exact h) H locs ls hl hP hD hS) (fun hc => kf (by rw [if_neg hc] at h; exact h) H locs ls hl hP hD hS)
theorem ww_icmpne {x y : Int32} {off : Int} {tgt : Nat} {A B : RR} (G : Good K Γ cc own nL fr lo) (d : decode cc pc = .ok (.if_icmp .ne off, 3)) (ht : (pc : Int) + off = (tgt : Int)) (h : (if ¬ x = y then A else B) = some fin) (kt : A = some fin → WW K Γ n σ tgt L S) (kf : B = some fin → WW K Γ n σ (pc + 3) L S) : WW K Γ n σ pc L (.int y :: .int x :: S) := by
  obtain ⟨p, l, e, R, s, m, args, below, meth, c, Q, c0, s0⟩ := Γ
  obtain ⟨hx, hb, hml, hown, hts, hK, hR, hlk, hz, hst, hU, hN⟩ := G
  intro H locs ls hl hP hD hS
  exact lv_icmp_ne hx hb d ht (fun hc => kt (by rw [if_pos hc] at h; exact h) H locs ls hl hP hD hS) (fun hc => kf (by rw [if_neg (fun z => z hc)] at h; exact h) H locs ls hl hP hD hS)
theorem ww_icmplt {x y : Int32} {off : Int} {tgt : Nat} {A B : RR} (G : Good K Γ cc own nL fr lo) (d : decode cc pc = .ok (.if_icmp .lt off, 3)) (ht : (pc : Int) + off = (tgt : Int)) (h : (if x < y then A else B) = some fin) (kt : A = some fin → WW K Γ n σ tgt L S) (kf : B = some fin → WW K Γ n σ (pc + 3) L S) : WW K Γ n σ pc L (.int y :: .int x :: S) := by
  obtain ⟨p, l, e, R, s, m, args, below, meth, c, Q, c0, s0⟩ := Γ
  obtain ⟨hx, hb, hml, hown, hts, hK, hR, hlk, hz, hst, hU, hN⟩ := G
  intro H locs ls hl hP hD hS
  exact lv_icmp_lt hx hb d ht (fun hc => kt (by rw [if_pos hc] at h; exact h) H locs ls hl hP hD hS) (fun hc => kf (by rw [if_neg hc] at h; exact h) H locs ls hl hP hD hS)
theorem ww_icmpge {x y : Int32} {off : Int} {tgt : Nat} {A B : RR} (G : Good K Γ cc own nL fr lo) (d : decode cc pc = .ok (.if_icmp .ge off, 3)) (ht : (pc : Int) + off = (tgt : Int)) (h : (if y ≤ x then A else B) = some fin) (kt : A = some fin → WW K Γ n σ tgt L S) (kf : B = some fin → WW K Γ n σ (pc + 3) L S) : WW K Γ n σ pc L (.int y :: .int x :: S) := by
  obtain ⟨p, l, e, R, s, m, args, below, meth, c, Q, c0, s0⟩ := Γ
  obtain ⟨hx, hb, hml, hown, hts, hK, hR, hlk, hz, hst, hU, hN⟩ := G
  intro H locs ls hl hP hD hS
  exact lv_icmp_ge hx hb d ht (fun hc => kt (by rw [if_pos hc] at h; exact h) H locs ls hl hP hD hS) (fun hc => kf (by rw [if_neg hc] at h; exact h) H locs ls hl hP hD hS)
theorem ww_icmpgt {x y : Int32} {off : Int} {tgt : Nat} {A B : RR} (G : Good K Γ cc own nL fr lo) (d : decode cc pc = .ok (.if_icmp .gt off, 3)) (ht : (pc : Int) + off = (tgt : Int)) (h : (if y < x then A else B) = some fin) (kt : A = some fin → WW K Γ n σ tgt L S) (kf : B = some fin → WW K Γ n σ (pc + 3) L S) : WW K Γ n σ pc L (.int y :: .int x :: S) := by
  obtain ⟨p, l, e, R, s, m, args, below, meth, c, Q, c0, s0⟩ := Γ
  obtain ⟨hx, hb, hml, hown, hts, hK, hR, hlk, hz, hst, hU, hN⟩ := G
  intro H locs ls hl hP hD hS
  exact lv_icmp_gt hx hb d ht (fun hc => kt (by rw [if_pos hc] at h; exact h) H locs ls hl hP hD hS) (fun hc => kf (by rw [if_neg hc] at h; exact h) H locs ls hl hP hD hS)
theorem ww_icmple {x y : Int32} {off : Int} {tgt : Nat} {A B : RR} (G : Good K Γ cc own nL fr lo) (d : decode cc pc = .ok (.if_icmp .le off, 3)) (ht : (pc : Int) + off = (tgt : Int)) (h : (if x ≤ y then A else B) = some fin) (kt : A = some fin → WW K Γ n σ tgt L S) (kf : B = some fin → WW K Γ n σ (pc + 3) L S) : WW K Γ n σ pc L (.int y :: .int x :: S) := by
  obtain ⟨p, l, e, R, s, m, args, below, meth, c, Q, c0, s0⟩ := Γ
  obtain ⟨hx, hb, hml, hown, hts, hK, hR, hlk, hz, hst, hU, hN⟩ := G
  intro H locs ls hl hP hD hS
  exact lv_icmp_le hx hb d ht (fun hc => kt (by rw [if_pos hc] at h; exact h) H locs ls hl hP hD hS) (fun hc => kf (by rw [if_neg hc] at h; exact h) H locs ls hl hP hD hS)
theorem ww_ifeq {x : Int32} {off : Int} {tgt : Nat} {A B : RR} (G : Good K Γ cc own nL fr lo) (d : decode cc pc = .ok (.ifCond .eq off, 3)) (ht : (pc : Int) + off = (tgt : Int)) (h : (if x = 0 then A else B) = some fin) (kt : A = some fin → WW K Γ n σ tgt L S) (kf : B = some fin → WW K Γ n σ (pc + 3) L S) : WW K Γ n σ pc L (.int x :: S) := by
  obtain ⟨p, l, e, R, s, m, args, below, meth, c, Q, c0, s0⟩ := Γ
  obtain ⟨hx, hb, hml, hown, hts, hK, hR, hlk, hz, hst, hU, hN⟩ := G
  intro H locs ls hl hP hD hS
  exact lv_if_eq hx hb d ht (fun hc => kt (by rw [if_pos hc] at h; exact h) H locs ls hl hP hD hS) (fun hc => kf (by rw [if_neg hc] at h; exact h) H locs ls hl hP hD hS)
theorem ww_ifne {x : Int32} {off : Int} {tgt : Nat} {A B : RR} (G : Good K Γ cc own nL fr lo) (d : decode cc pc = .ok (.ifCond .ne off, 3)) (ht : (pc : Int) + off = (tgt : Int)) (h : (if ¬ x = 0 then A else B) = some fin) (kt : A = some fin → WW K Γ n σ tgt L S) (kf : B = some fin → WW K Γ n σ (pc + 3) L S) : WW K Γ n σ pc L (.int x :: S) := by
  obtain ⟨p, l, e, R, s, m, args, below, meth, c, Q, c0, s0⟩ := Γ
  obtain ⟨hx, hb, hml, hown, hts, hK, hR, hlk, hz, hst, hU, hN⟩ := G
  intro H locs ls hl hP hD hS
  exact lv_if_ne hx hb d ht (fun hc => kt (by rw [if_pos hc] at h; exact h) H locs ls hl hP hD hS) (fun hc => kf (by rw [if_neg (fun z => z hc)] at h; exact h) H locs ls hl hP hD hS)
theorem ww_iflt {x : Int32} {off : Int} {tgt : Nat} {A B : RR} (G : Good K Γ cc own nL fr lo) (d : decode cc pc = .ok (.ifCond .lt off, 3)) (ht : (pc : Int) + off = (tgt : Int)) (h : (if x < 0 then A else B) = some fin) (kt : A = some fin → WW K Γ n σ tgt L S) (kf : B = some fin → WW K Γ n σ (pc + 3) L S) : WW K Γ n σ pc L (.int x :: S) := by
  obtain ⟨p, l, e, R, s, m, args, below, meth, c, Q, c0, s0⟩ := Γ
  obtain ⟨hx, hb, hml, hown, hts, hK, hR, hlk, hz, hst, hU, hN⟩ := G
  intro H locs ls hl hP hD hS
  exact lv_if_lt hx hb d ht (fun hc => kt (by rw [if_pos hc] at h; exact h) H locs ls hl hP hD hS) (fun hc => kf (by rw [if_neg hc] at h; exact h) H locs ls hl hP hD hS)
theorem ww_ifge {x : Int32} {off : Int} {tgt : Nat} {A B : RR} (G : Good K Γ cc own nL fr lo) (d : decode cc pc = .ok (.ifCond .ge off, 3)) (ht : (pc : Int) + off = (tgt : Int)) (h : (if 0 ≤ x then A else B) = some fin) (kt : A = some fin → WW K Γ n σ tgt L S) (kf : B = some fin → WW K Γ n σ (pc + 3) L S) : WW K Γ n σ pc L (.int x :: S) := by
  obtain ⟨p, l, e, R, s, m, args, below, meth, c, Q, c0, s0⟩ := Γ
  obtain ⟨hx, hb, hml, hown, hts, hK, hR, hlk, hz, hst, hU, hN⟩ := G
  intro H locs ls hl hP hD hS
  exact lv_if_ge hx hb d ht (fun hc => kt (by rw [if_pos hc] at h; exact h) H locs ls hl hP hD hS) (fun hc => kf (by rw [if_neg hc] at h; exact h) H locs ls hl hP hD hS)
theorem ww_ifgt {x : Int32} {off : Int} {tgt : Nat} {A B : RR} (G : Good K Γ cc own nL fr lo) (d : decode cc pc = .ok (.ifCond .gt off, 3)) (ht : (pc : Int) + off = (tgt : Int)) (h : (if 0 < x then A else B) = some fin) (kt : A = some fin → WW K Γ n σ tgt L S) (kf : B = some fin → WW K Γ n σ (pc + 3) L S) : WW K Γ n σ pc L (.int x :: S) := by
  obtain ⟨p, l, e, R, s, m, args, below, meth, c, Q, c0, s0⟩ := Γ
  obtain ⟨hx, hb, hml, hown, hts, hK, hR, hlk, hz, hst, hU, hN⟩ := G
  intro H locs ls hl hP hD hS
  exact lv_if_gt hx hb d ht (fun hc => kt (by rw [if_pos hc] at h; exact h) H locs ls hl hP hD hS) (fun hc => kf (by rw [if_neg hc] at h; exact h) H locs ls hl hP hD hS)
theorem ww_ifle {x : Int32} {off : Int} {tgt : Nat} {A B : RR} (G : Good K Γ cc own nL fr lo) (d : decode cc pc = .ok (.ifCond .le off, 3)) (ht : (pc : Int) + off = (tgt : Int)) (h : (if x ≤ 0 then A else B) = some fin) (kt : A = some fin → WW K Γ n σ tgt L S) (kf : B = some fin → WW K Γ n σ (pc + 3) L S) : WW K Γ n σ pc L (.int x :: S) := by
  obtain ⟨p, l, e, R, s, m, args, below, meth, c, Q, c0, s0⟩ := Γ
  obtain ⟨hx, hb, hml, hown, hts, hK, hR, hlk, hz, hst, hU, hN⟩ := G
  intro H locs ls hl hP hD hS
  exact lv_if_le hx hb d ht (fun hc => kt (by rw [if_pos hc] at h; exact h) H locs ls hl hP hD hS) (fun hc => kf (by rw [if_neg hc] at h; exact h) H locs ls hl hP hD hS)
theorem ww_jn {α : Type} {Rr : α → Mem → RR} {B : (α → Mem → RR) → RR} {goal : Prop} (h : mm_jn Rr B = some fin) (P : α → Mem → Prop) (J : ∀ x s, Rr x s = some fin → P x s) (k : ∀ r : α → Mem → RR, (∀ x s, r x s = some fin → P x s) → B r = some fin → goal) : goal := k Rr J h
theorem ww_tab {x w : Int32} {A B : RR} {goal : Prop} (h : (if x = w then A else B) = some fin) (kt : x = w → A = some fin → goal) (kf : ¬ x = w → B = some fin → goal) : goal := by
  by_cases hc : x = w
  · rw [if_pos hc] at h; exact kt hc h
  · rw [if_neg hc] at h; exact kf hc h
theorem ww_tabIn {dflt lo9 hi : Int} {offs : Array Int} {len : Nat} {x w : Int32} {off : Int} {tgt : Nat} (G : Good K Γ cc own nL fr lo) (d : decode cc pc = .ok (.tableswitch dflt lo9 hi offs, len)) (hw : x = w) (h1 : ¬ w.toInt < lo9) (h2 : ¬ hi < w.toInt) (ho : offs[(w.toInt - lo9).toNat]? = some off) (ht : (pc : Int) + off = (tgt : Int)) (k : WW K Γ n σ tgt L S) : WW K Γ n σ pc L (.int x :: S) := by
  subst hw
  obtain ⟨p, l, e, R, s, m, args, below, meth, c, Q, c0, s0⟩ := Γ
  obtain ⟨hx, hb, hml, hown, hts, hK, hR, hlk, hz, hst, hU, hN⟩ := G
  intro H locs ls hl hP hD hS
  exact lv_tableIn hx hb d h1 h2 ho ht (k H locs ls hl hP hD hS)
theorem ww_tabOut {dflt lo9 hi : Int} {offs : Array Int} {len : Nat} {x : Int32} {tgt : Nat} (G : Good K Γ cc own nL fr lo) (d : decode cc pc = .ok (.tableswitch dflt lo9 hi offs, len)) (h1 : x.toInt < lo9 ∨ hi < x.toInt) (ht : (pc : Int) + dflt = (tgt : Int)) (k : WW K Γ n σ tgt L S) : WW K Γ n σ pc L (.int x :: S) := by
  obtain ⟨p, l, e, R, s, m, args, below, meth, c, Q, c0, s0⟩ := Γ
  obtain ⟨hx, hb, hml, hown, hts, hK, hR, hlk, hz, hst, hU, hN⟩ := G
  intro H locs ls hl hP hD hS
  exact lv_tableOut hx hb d h1 ht (k H locs ls hl hP hD hS)
theorem tab_out3 {x : Int32} (h0 : ¬ x = (0 : Int32)) (h1 : ¬ x = (1 : Int32)) (h2 : ¬ x = (2 : Int32)) : x.toInt < 0 ∨ 2 < x.toInt := by
  have q0 : x.toInt ≠ 0 := fun z => h0 (Int32.toInt_inj.mp (by rw [z]; decide))
  have q1 : x.toInt ≠ 1 := fun z => h1 (Int32.toInt_inj.mp (by rw [z]; decide))
  have q2 : x.toInt ≠ 2 := fun z => h2 (Int32.toInt_inj.mp (by rw [z]; decide))
  omega
theorem tab_out20 {x : Int32} (h0 : ¬ x = (0 : Int32)) (h1 : ¬ x = (1 : Int32)) (h2 : ¬ x = (2 : Int32)) (h3 : ¬ x = (3 : Int32)) (h4 : ¬ x = (4 : Int32)) (h5 : ¬ x = (5 : Int32)) (h6 : ¬ x = (6 : Int32)) (h7 : ¬ x = (7 : Int32)) (h8 : ¬ x = (8 : Int32)) (h9 : ¬ x = (9 : Int32)) (h10 : ¬ x = (10 : Int32)) (h11 : ¬ x = (11 : Int32)) (h12 : ¬ x = (12 : Int32)) (h13 : ¬ x = (13 : Int32)) (h14 : ¬ x = (14 : Int32)) (h15 : ¬ x = (15 : Int32)) (h16 : ¬ x = (16 : Int32)) (h17 : ¬ x = (17 : Int32)) (h18 : ¬ x = (18 : Int32)) (h19 : ¬ x = (19 : Int32)) : x.toInt < 0 ∨ 19 < x.toInt := by
  have q0 : x.toInt ≠ 0 := fun z => h0 (Int32.toInt_inj.mp (by rw [z]; decide))
  have q1 : x.toInt ≠ 1 := fun z => h1 (Int32.toInt_inj.mp (by rw [z]; decide))
  have q2 : x.toInt ≠ 2 := fun z => h2 (Int32.toInt_inj.mp (by rw [z]; decide))
  have q3 : x.toInt ≠ 3 := fun z => h3 (Int32.toInt_inj.mp (by rw [z]; decide))
  have q4 : x.toInt ≠ 4 := fun z => h4 (Int32.toInt_inj.mp (by rw [z]; decide))
  have q5 : x.toInt ≠ 5 := fun z => h5 (Int32.toInt_inj.mp (by rw [z]; decide))
  have q6 : x.toInt ≠ 6 := fun z => h6 (Int32.toInt_inj.mp (by rw [z]; decide))
  have q7 : x.toInt ≠ 7 := fun z => h7 (Int32.toInt_inj.mp (by rw [z]; decide))
  have q8 : x.toInt ≠ 8 := fun z => h8 (Int32.toInt_inj.mp (by rw [z]; decide))
  have q9 : x.toInt ≠ 9 := fun z => h9 (Int32.toInt_inj.mp (by rw [z]; decide))
  have q10 : x.toInt ≠ 10 := fun z => h10 (Int32.toInt_inj.mp (by rw [z]; decide))
  have q11 : x.toInt ≠ 11 := fun z => h11 (Int32.toInt_inj.mp (by rw [z]; decide))
  have q12 : x.toInt ≠ 12 := fun z => h12 (Int32.toInt_inj.mp (by rw [z]; decide))
  have q13 : x.toInt ≠ 13 := fun z => h13 (Int32.toInt_inj.mp (by rw [z]; decide))
  have q14 : x.toInt ≠ 14 := fun z => h14 (Int32.toInt_inj.mp (by rw [z]; decide))
  have q15 : x.toInt ≠ 15 := fun z => h15 (Int32.toInt_inj.mp (by rw [z]; decide))
  have q16 : x.toInt ≠ 16 := fun z => h16 (Int32.toInt_inj.mp (by rw [z]; decide))
  have q17 : x.toInt ≠ 17 := fun z => h17 (Int32.toInt_inj.mp (by rw [z]; decide))
  have q18 : x.toInt ≠ 18 := fun z => h18 (Int32.toInt_inj.mp (by rw [z]; decide))
  have q19 : x.toInt ≠ 19 := fun z => h19 (Int32.toInt_inj.mp (by rw [z]; decide))
  omega
end VRows
end
section
section VMem
variable {K : KK} {Γ : Cx} {cc : ByteArray} {own : String} {nL fr lo n : Nat} {σ : Mem} {pc : Nat} {L : List (Nat × Value)} {S : List Value} {fin : Oc × Mem}
theorem FL_at {F i : Nat} (hF : F < 72) (hi : i < cnt F) : (FL K σ)[tb_pos F i]? = some (aa K F i, ct K σ F i) := by
  unfold FL
  rw [List.getElem?_map, tb_at F hF i hi]
  rfl
theorem FL_set {σ' : Mem} {F i : Nat} {e : va_E} (hF : F < 72) (hi : i < cnt F) (ho : ∀ F' i', ¬ (F' = F ∧ i' = i) → ct K σ' F' i' = ct K σ F' i') (hs : ct K σ' F i = e) :
    (FL K σ).set (tb_pos F i) (aa K F i, e) = FL K σ' := by
  have hat := tb_at F hF i hi
  have hlt : tb_pos F i < tb_all.length := (List.getElem?_eq_some_iff.mp hat).1
  apply List.ext_getElem?
  intro j
  unfold FL
  rw [List.getElem?_set, List.getElem?_map, List.length_map]
  by_cases hj : tb_pos F i = j
  · subst hj
    rw [if_pos rfl, if_pos hlt, List.getElem?_map, hat]
    show _ = some (aa K F i, ct K σ' F i)
    rw [hs]
  · rw [if_neg hj, List.getElem?_map]
    cases hc : tb_all[j]? with
    | none => rfl
    | some q =>
      show some (aa K q.1 q.2, ct K σ q.1 q.2) = some (aa K q.1 q.2, ct K σ' q.1 q.2)
      rw [ho q.1 q.2 (fun hh => hj (by
        have := tb_inv j q hc
        rw [hh.1, hh.2] at this
        exact this))]
theorem ct_upI (σ : Mem) (F i k : Nat) (v : Int32) : ∀ F' i', ¬ (F' = F ∧ i' = i) → ct K (mm_wI σ F i k v) F' i' = ct K σ F' i' := by
  intro F' i' h
  have : (mm_wI σ F i k v).1 F' i' = σ.1 F' i' := by
    funext k'
    show (if F' = F ∧ i' = i ∧ k' = k then v else σ.1 F' i' k') = _
    exact if_neg (fun q => h ⟨q.1, q.2.1⟩)
  show ctR K F' i' ((mm_wI σ F i k v).1 F' i') (σ.2 F' i') = ctR K F' i' (σ.1 F' i') (σ.2 F' i')
  rw [this]
theorem ct_upI' (σ : Mem) (F i k : Nat) (v : Int32) : ct K (mm_wI σ F i k v) F i = ctR K F i (upd (σ.1 F i) k v) (σ.2 F i) := by
  have : (mm_wI σ F i k v).1 F i = upd (σ.1 F i) k v := by
    funext k'
    show (if F = F ∧ i = i ∧ k' = k then v else σ.1 F i k') = if k' = k then v else σ.1 F i k'
    by_cases hk : k' = k
    · rw [if_pos ⟨rfl, rfl, hk⟩, if_pos hk]
    · rw [if_neg (fun q => hk q.2.2), if_neg hk]
  show ctR K F i ((mm_wI σ F i k v).1 F i) (σ.2 F i) = _
  rw [this]
theorem ct_upJ (σ : Mem) (F i k : Nat) (v : Int64) : ∀ F' i', ¬ (F' = F ∧ i' = i) → ct K (mm_wJ σ F i k v) F' i' = ct K σ F' i' := by
  intro F' i' h
  have : (mm_wJ σ F i k v).2 F' i' = σ.2 F' i' := by
    funext k'
    show (if F' = F ∧ i' = i ∧ k' = k then v else σ.2 F' i' k') = _
    exact if_neg (fun q => h ⟨q.1, q.2.1⟩)
  show ctR K F' i' (σ.1 F' i') ((mm_wJ σ F i k v).2 F' i') = ctR K F' i' (σ.1 F' i') (σ.2 F' i')
  rw [this]
theorem ct_upJ' (σ : Mem) (F i k : Nat) (v : Int64) : ct K (mm_wJ σ F i k v) F i = ctR K F i (σ.1 F i) (vp_updL (σ.2 F i) k v) := by
  have : (mm_wJ σ F i k v).2 F i = vp_updL (σ.2 F i) k v := by
    funext k'
    show (if F = F ∧ i = i ∧ k' = k then v else σ.2 F i k') = if k' = k then v else σ.2 F i k'
    by_cases hk : k' = k
    · rw [if_pos ⟨rfl, rfl, hk⟩, if_pos hk]
    · rw [if_neg (fun q => hk q.2.2), if_neg hk]
  show ctR K F i (σ.1 F i) ((mm_wJ σ F i k v).2 F i) = _
  rw [this]
-- arrays
theorem ww_iaload {F i N : Nat} {x : Int32} {k : Int32 → RR} (G : Good K Γ cc own nL fr lo) (ar : ArI F N) (hi : i < cnt F) (d : decode cc pc = .ok (.iaload, 1)) (h : mm_ld σ F i N x k = some fin) (kk : ∀ v, k v = some fin → WW K Γ n σ (pc + 1) L (.int v :: S)) : WW K Γ n σ pc L (.int x :: .ref (aa K F i) :: S) := by
  by_cases hin : x < 0 ∨ N ≤ x.toNatClampNeg
  · rw [mm_ld, if_pos hin] at h; exact nomatch h
  rw [mm_ld, if_neg hin] at h
  have k := kk _ h
  obtain ⟨p, l, e, R, s, m, args, below, meth, c, Q, c0, s0⟩ := Γ
  obtain ⟨hx, hb, hml, hown, hts, hK, hR, hlk, hz, hst, hU, hN⟩ := G
  intro H locs ls hl hP hD hS
  exact va_iald hx hb hK hP (tb_pos F i) 0 ((FL_at ar.1 hi).trans (by show some (_, ctR K F i (σ.1 F i) (σ.2 F i)) = _; rw [ar.2])) rfl hin d (k H locs ls hl hP hD hS)
theorem ww_baload {F i N : Nat} {x : Int32} {k : Int32 → RR} (G : Good K Γ cc own nL fr lo) (ar : ArZ F N) (hi : i < cnt F) (d : decode cc pc = .ok (.baload, 1)) (h : mm_ld σ F i N x k = some fin) (kk : ∀ v, k v = some fin → WW K Γ n σ (pc + 1) L (.int v :: S)) : WW K Γ n σ pc L (.int x :: .ref (aa K F i) :: S) := by
  by_cases hin : x < 0 ∨ N ≤ x.toNatClampNeg
  · rw [mm_ld, if_pos hin] at h; exact nomatch h
  rw [mm_ld, if_neg hin] at h
  have k := kk _ h
  obtain ⟨p, l, e, R, s, m, args, below, meth, c, Q, c0, s0⟩ := Γ
  obtain ⟨hx, hb, hml, hown, hts, hK, hR, hlk, hz, hst, hU, hN⟩ := G
  intro H locs ls hl hP hD hS
  exact va_zald hx hb hK hP (tb_pos F i) 2 ((FL_at ar.1 hi).trans (by show some (_, ctR K F i (σ.1 F i) (σ.2 F i)) = _; rw [ar.2])) rfl hin d (k H locs ls hl hP hD hS)
theorem ww_laload {F i N : Nat} {x : Int32} {k : Int64 → RR} (G : Good K Γ cc own nL fr lo) (ar : ArJ F N) (hi : i < cnt F) (d : decode cc pc = .ok (.laload, 1)) (h : mm_ldj σ F i N x k = some fin) (kk : ∀ v, k v = some fin → WW K Γ n σ (pc + 1) L (.long v :: S)) : WW K Γ n σ pc L (.int x :: .ref (aa K F i) :: S) := by
  by_cases hin : x < 0 ∨ N ≤ x.toNatClampNeg
  · rw [mm_ldj, if_pos hin] at h; exact nomatch h
  rw [mm_ldj, if_neg hin] at h
  have k := kk _ h
  obtain ⟨p, l, e, R, s, m, args, below, meth, c, Q, c0, s0⟩ := Γ
  obtain ⟨hx, hb, hml, hown, hts, hK, hR, hlk, hz, hst, hU, hN⟩ := G
  intro H locs ls hl hP hD hS
  exact va_lald hx hb hK hP (tb_pos F i) 1 ((FL_at ar.1 hi).trans (by show some (_, ctR K F i (σ.1 F i) (σ.2 F i)) = _; rw [ar.2])) rfl hin d (k H locs ls hl hP hD hS)
theorem ww_aaload {F i N F2 t : Nat} {C : String} {g : Nat → Nat → Nat} {x : Int32} {k : Nat → RR} (G : Good K Γ cc own nL fr lo) (ar : ArA F N t C F2 g) (hi : i < cnt F) (d : decode cc pc = .ok (.aaload, 1)) (h : mm_al N x k = some fin) (kk : ∀ j, j < N → k j = some fin → WW K Γ n σ (pc + 1) L (.ref (aa K F2 (g i j)) :: S)) : WW K Γ n σ pc L (.int x :: .ref (aa K F i) :: S) := by
  by_cases hin : x < 0 ∨ N ≤ x.toNatClampNeg
  · rw [mm_al, if_pos hin] at h; exact nomatch h
  rw [mm_al, if_neg hin] at h
  have k := kk _ (Nat.lt_of_not_le fun q => hin (Or.inr q)) h
  obtain ⟨p, l, e, R, s, m, args, below, meth, c, Q, c0, s0⟩ := Γ
  obtain ⟨hx, hb, hml, hown, hts, hK, hR, hlk, hz, hst, hU, hN⟩ := G
  intro H locs ls hl hP hD hS
  exact va_aldq (f := fun j => some (aa K F2 (g i j))) hx hb hK hP (tb_pos F i) t ((FL_at ar.1 hi).trans (by show some (_, ctR K F i (σ.1 F i) (σ.2 F i)) = _; rw [ar.2.2])) (ar.2.1 K) hin d (k H locs ls hl hP hD hS)
theorem ww_iastore {F i N : Nat} {x v : Int32} {k : Mem → RR} (G : Good K Γ cc own nL fr lo) (ar : ArI F N) (hi : i < cnt F) (d : decode cc pc = .ok (.iastore, 1)) (h : mm_st σ F i N x v k = some fin) (kk : ∀ s, k s = some fin → WW K Γ n s (pc + 1) L S) : WW K Γ n σ pc L (.int v :: .int x :: .ref (aa K F i) :: S) := by
  by_cases hin : x < 0 ∨ N ≤ x.toNatClampNeg
  · rw [mm_st, if_pos hin] at h; exact nomatch h
  rw [mm_st, if_neg hin] at h
  have k := kk _ h
  obtain ⟨p, l, e, R, s, m, args, below, meth, c, Q, c0, s0⟩ := Γ
  obtain ⟨hx, hb, hml, hown, hts, hK, hR, hlk, hz, hst, hU, hN⟩ := G
  intro H locs ls hl hP hD hS
  refine va_iast hx hb hK hP hD hS (tb_pos F i) 0 ((FL_at ar.1 hi).trans (by show some (_, ctR K F i (σ.1 F i) (σ.2 F i)) = _; rw [ar.2])) rfl hin d (fun H1 locs1 hP1 hD1 hS1 => ?_)
  have e1 := FL_set (K := K) (σ' := mm_wI σ F i x.toNatClampNeg v) ar.1 hi (ct_upI σ F i _ v) ((ct_upI' σ F i _ v).trans (ar.2 K i _ _))
  rw [e1] at hP1 hD1
  exact k H1 locs1 ls hl hP1 hD1 hS1
theorem ww_bastore {F i N : Nat} {x v : Int32} {k : Mem → RR} (G : Good K Γ cc own nL fr lo) (ar : ArZ F N) (hi : i < cnt F) (d : decode cc pc = .ok (.bastore, 1)) (h : mm_sz σ F i N x v k = some fin) (kk : ∀ s, k s = some fin → WW K Γ n s (pc + 1) L S) : WW K Γ n σ pc L (.int v :: .int x :: .ref (aa K F i) :: S) := by
  by_cases hin : x < 0 ∨ N ≤ x.toNatClampNeg
  · rw [mm_sz, if_pos hin] at h; exact nomatch h
  rw [mm_sz, if_neg hin] at h
  have k := kk _ h
  obtain ⟨p, l, e, R, s, m, args, below, meth, c, Q, c0, s0⟩ := Γ
  obtain ⟨hx, hb, hml, hown, hts, hK, hR, hlk, hz, hst, hU, hN⟩ := G
  intro H locs ls hl hP hD hS
  refine va_zast hx hb hK hP hD hS (tb_pos F i) 2 ((FL_at ar.1 hi).trans (by show some (_, ctR K F i (σ.1 F i) (σ.2 F i)) = _; rw [ar.2])) rfl hin d (fun H1 locs1 hP1 hD1 hS1 => ?_)
  have e1 := FL_set (K := K) (σ' := mm_wI σ F i x.toNatClampNeg (vp_nar .boolean v)) ar.1 hi (ct_upI σ F i _ _) ((ct_upI' σ F i _ _).trans (ar.2 K i _ _))
  rw [e1] at hP1 hD1
  exact k H1 locs1 ls hl hP1 hD1 hS1
theorem ww_lastore {F i N : Nat} {x : Int32} {v : Int64} {k : Mem → RR} (G : Good K Γ cc own nL fr lo) (ar : ArJ F N) (hi : i < cnt F) (d : decode cc pc = .ok (.lastore, 1)) (h : mm_stj σ F i N x v k = some fin) (kk : ∀ s, k s = some fin → WW K Γ n s (pc + 1) L S) : WW K Γ n σ pc L (.long v :: .int x :: .ref (aa K F i) :: S) := by
  by_cases hin : x < 0 ∨ N ≤ x.toNatClampNeg
  · rw [mm_stj, if_pos hin] at h; exact nomatch h
  rw [mm_stj, if_neg hin] at h
  have k := kk _ h
  obtain ⟨p, l, e, R, s, m, args, below, meth, c, Q, c0, s0⟩ := Γ
  obtain ⟨hx, hb, hml, hown, hts, hK, hR, hlk, hz, hst, hU, hN⟩ := G
  intro H locs ls hl hP hD hS
  refine va_last hx hb hK hP hD hS (tb_pos F i) 1 ((FL_at ar.1 hi).trans (by show some (_, ctR K F i (σ.1 F i) (σ.2 F i)) = _; rw [ar.2])) rfl hin d (fun H1 locs1 hP1 hD1 hS1 => ?_)
  have e1 := FL_set (K := K) (σ' := mm_wJ σ F i x.toNatClampNeg v) ar.1 hi (ct_upJ σ F i _ v) ((ct_upJ' σ F i _ v).trans (ar.2 K i _ _))
  rw [e1] at hP1 hD1
  exact k H1 locs1 ls hl hP1 hD1 hS1
-- fields
theorem ww_getf {F i q idx : Nat} {ty : FieldType} {fn : Bool} {k : Int32 → RR} (G : Good K Γ cc own nL fr lo) (fs : FsI own idx F q ty fn) (hi : i < cnt F) (d : decode cc pc = .ok (.getfield idx, 3)) (h : mm_gf σ F i q k = some fin) (kk : ∀ v, k v = some fin → WW K Γ n σ (pc + 3) L (.int v :: S)) : WW K Γ n σ pc L (.ref (aa K F i) :: S) := by
  have k := kk _ h
  obtain ⟨hF, ci, C, T, N, ty0, hc, hq, hin, hlink, hct, hty, hnm, hfn, hpd⟩ := fs
  obtain ⟨p, l, e, R, s, m, args, below, meth, c, Q, c0, s0⟩ := Γ
  obtain ⟨hx, hb, hml, hown, hts, hK, hR, hlk, hz, hst, hU, hN⟩ := G
  intro H locs ls hl hP hD hS
  obtain ⟨fl, e1, e2, e3, e4⟩ := hct K i (σ.1 F i) (σ.2 F i)
  exact va_get hx hb hts hin hown hK hP (tb_pos F i) ((FL_at hF hi).trans (by show some (_, ctR K F i (σ.1 F i) (σ.2 F i)) = _; rw [e1])) hc q hq (hts _ hlink) (fun _ z => z) e2 d (k H locs ls hl hP hD hS)
theorem ww_getr {F i q idx F2 : Nat} {g : Nat → Nat} (G : Good K Γ cc own nL fr lo) (fs : FsR own idx F q F2 g) (hi : i < cnt F) (d : decode cc pc = .ok (.getfield idx, 3)) (k : WW K Γ n σ (pc + 3) L (.ref (aa K F2 (g i)) :: S)) : WW K Γ n σ pc L (.ref (aa K F i) :: S) := by
  obtain ⟨hF, ci, C, T, N, hc, hq, hin, hlink, hct⟩ := fs
  obtain ⟨p, l, e, R, s, m, args, below, meth, c, Q, c0, s0⟩ := Γ
  obtain ⟨hx, hb, hml, hown, hts, hK, hR, hlk, hz, hst, hU, hN⟩ := G
  intro H locs ls hl hP hD hS
  obtain ⟨fl, e1, e2⟩ := hct K i (σ.1 F i) (σ.2 F i)
  exact va_get hx hb hts hin hown hK hP (tb_pos F i) ((FL_at hF hi).trans (by show some (_, ctR K F i (σ.1 F i) (σ.2 F i)) = _; rw [e1])) hc q hq (hts _ hlink) (fun _ z => z) e2 d (k H locs ls hl hP hD hS)
theorem ww_putx {F i q idx : Nat} {v : Int32} {ty : FieldType} (G : Good K Γ cc own nL fr lo) (fs : FsI own idx F q ty false) (hn : narrow ty (.int v) = .int v) (hfit : fits ty (.int v) = true) (hi : i < cnt F) (d : decode cc pc = .ok (.putfield idx, 3)) (k : WW K Γ n (mm_wI σ F i q v) (pc + 3) L S) : WW K Γ n σ pc L (.int v :: .ref (aa K F i) :: S) := by
  obtain ⟨hF, ci, C, T, N, ty0, hc, hq, hin, hlink, hct, hty, hnm, hfn, hpd⟩ := fs
  obtain ⟨p, l, e, R, s, m, args, below, meth, c, Q, c0, s0⟩ := Γ
  obtain ⟨hx, hb, hml, hown, hts, hK, hR, hlk, hz, hst, hU, hN⟩ := G
  intro H locs ls hl hP hD hS
  obtain ⟨fl, e1, e2, e3, e4⟩ := hct K i (σ.1 F i) (σ.2 F i)
  refine va_put hx hb hts hin ty0 hty hnm hown hK hP hD hS (tb_pos F i) ((FL_at hF hi).trans (by show some (_, ctR K F i (σ.1 F i) (σ.2 F i)) = _; rw [e1])) hc q hq (hts _ hlink) (fun _ z => z) hfn hpd hn hfit e3 d (fun H1 locs1 hP1 hD1 hS1 => ?_)
  have e5 := FL_set (K := K) (σ' := mm_wI σ F i q v) hF hi (ct_upI σ F i _ v) ((ct_upI' σ F i _ v).trans (e4 v))
  rw [e5] at hP1 hD1
  exact k H1 locs1 ls hl hP1 hD1 hS1
theorem ww_putf {F i q idx : Nat} {v : Int32} {k : Mem → RR} (G : Good K Γ cc own nL fr lo) (fs : FsI own idx F q .int false) (hi : i < cnt F) (d : decode cc pc = .ok (.putfield idx, 3)) (h : mm_pf σ F i q v k = some fin) (kk : ∀ s, k s = some fin → WW K Γ n s (pc + 3) L S) : WW K Γ n σ pc L (.int v :: .ref (aa K F i) :: S) :=
  ww_putx G fs rfl rfl hi d (kk _ h)
theorem ww_putz {F i q idx : Nat} {v : Int32} {k : Mem → RR} (G : Good K Γ cc own nL fr lo) (fs : FsI own idx F q .boolean false) (hi : i < cnt F) (d : decode cc pc = .ok (.putfield idx, 3)) (h : mm_pz σ F i q v k = some fin) (kk : ∀ s, k s = some fin → WW K Γ n s (pc + 3) L S) : WW K Γ n σ pc L (.int v :: .ref (aa K F i) :: S) := by
  by_cases hv : v = 0 ∨ v = 1
  · rw [mm_pz, if_pos hv] at h
    refine ww_putx G fs ?_ ?_ hi d (kk _ h)
    · rcases hv with rfl | rfl <;> decide
    · rcases hv with rfl | rfl <;> decide
  · rw [mm_pz, if_neg hv] at h; exact nomatch h
end VMem
end
section
section VCalls
variable {K : KK} {Γ : Cx} {cc : ByteArray} {own : String} {nL fr lo : Nat} {σ : Mem} {pc : Nat} {L : List (Nat × Value)} {S : List Value} {rt : Option FieldType} {o : Oc} {q : Mem}
theorem Sta.moved {A : Nat → Prop} {U V : State} {H : Heap} {n d : String} (h : Sta A U H n d) (ha : U.vm.Alike V.vm) : Sta A V H n d := by
  obtain ⟨c, k, i, f, a, cell, v, h1, h2, h3, h4, h5, h6⟩ := h
  obtain ⟨k', hi', he⟩ := State.fieldFound?_setVm ha h2
  exact ⟨c, k', i, f, a, cell, v, by rw [ha.findClass]; exact h1, hi', h3, by rw [he]; exact h4, by rw [he]; exact h5, h6⟩
theorem Sta.kept {A : Nat → Prop} {U : State} {H H1 : Heap} {n d : String} (h : Sta A U H n d) (hq : ∀ a : Nat, a < H.size → ¬ A a → H1[a]? = H[a]?) : Sta A U H1 n d := by
  obtain ⟨c, k, i, f, a, cell, v, h1, h2, h3, h4, h5, h6, h7, h8, h9, h10, h11, h12⟩ := h
  exact ⟨c, k, i, f, a, cell, v, h1, h2, h3, h4, h5, by rw [hq a (Array.getElem?_eq_some_iff.mp h6).1 h12]; exact h6, h7, h8, h9, h10, h11, h12⟩
theorem Wd.moved {K : KK} {σ : Mem} {U V : State} (h : Wd K σ U) (hh : V.heap = U.heap) (ha : U.vm.Alike V.vm) : Wd K σ V := by
  obtain ⟨h2, h3, h4, h5, h6⟩ := h
  exact ⟨by rw [hh]; exact h2, h3, va_K.moved ha h4, by rw [hh]; exact Sta.moved h5 ha, by rw [hh]; exact Sta.moved h6 ha⟩
theorem Wd.of {K : KK} {σ : Mem} {s U : State} {H : Heap} {locs : List Loc} (hK : va_K K.2.1 vwCl (tyL K.2.2.1) s) (hU : StU K s s.heap) (hN : StN K s s.heap)
    (hP : va_P K.2.1 vwCl (FL K σ) H) (hD : va_D (AK K) (FL K σ)) (hS : va_S (AK K) s.heap H locs) (hh : U.heap = H) (ha : s.vm.Alike U.vm) : Wd K σ U :=
  ⟨by rw [hh]; exact hP, hD, va_K.moved ha hK, by rw [hh]; exact (Sta.moved hU ha).kept hS.2.1, by rw [hh]; exact (Sta.moved hN ha).kept hS.2.1⟩
theorem PcO_blind {av : List Value} : FrameBlind (PcO K av σ) := fun a U g mk h => ⟨h.1, h.2.moved rfl (Vm.Alike.refl U.vm)⟩
theorem Ct_of {l : Launch} {y : MethodName} {b : ByteArray} {mL : Nat} {av : List Value} {L : List (Nat × Value)} (hy : plainName y.cls = true) (ho : y.cls = own) (hlen : (lg_sl av).length ≤ mL) (hL : lv_args 0 av = L)
    (body : ∀ Γ : Cx, Good K Γ b own mL fr lo → Ends K Γ rt o q → WW K Γ 0 σ 0 L []) : Ct l K y b mL rt fr lo av σ o q := by
  intro hst
  subst ho
  subst hL
  cases o with
  | inr r =>
    refine Met.ofW (cc := b) (maxL := mL) (ret := rt) hy rfl ?_
    intro p e s m args below meth c s₁ B hml hv
    obtain ⟨rfl, hP, hD, hK, hU, hN⟩ := hv
    have hts := atoms_spec (ws := Cond.code y b mL rt :: wAll) B.pre
    rw [lg_entry_eq]
    exact body (p, l, e, ({ frames := fr, cells := 0, slots := 0, locals := lo } : Room), s, m, av.toArray, below, meth, c, _, 0, 0) ⟨B.exec, B.bytes, hml, findClass_of_methodNamed B.named, fun w h => hts w (List.mem_cons_of_mem _ h), hK, ⟨Nat.le_refl _, Nat.le_refl _⟩, B.notSynchronized, ⟨σ, hP⟩, hst, hU, hN⟩
      ⟨rfl, B.returns, fun pc => covers_of_empty (B.noHandlers (hts _ List.mem_cons_self)) pc, fun e h => (by cases h), rfl, rfl⟩ s.heap [] _ (by rw [hml]; exact lv_entry av hlen) hP hD va_S.rf
  | inl e =>
    refine MetFree.of_bodyS (code := b) (maxLocals := mL) (ret := rt) hy ?_ ?_
    · intro args s m h hn
      obtain ⟨meth, c, h1, h2, h3, h4, h5, h6, -, -⟩ := Cond.code_spec hn (atoms_spec (ws := Cond.code y b mL rt :: wAll) h _ List.mem_cons_self)
      exact ⟨meth, c, h1, h2, h3, h4, h5, h6⟩
    · intro p e' s m args below meth c s₁ B hml hv _
      obtain ⟨rfl, hP, hD, hK, hU, hN⟩ := hv
      have hts := atoms_spec (ws := Cond.code y b mL rt :: wAll) B.pre
      have hh0 : s₁.heap = s.heap := by rw [B.state]; rfl
      have hw := body (p, l, e', ({ frames := fr, cells := 1, slots := 6, locals := lo } : Room), s, m, av.toArray, below, meth, c, EQ K below av.toArray s (.inl e) q, 0, 0) ⟨B.exec, B.bytes, hml, findClass_of_methodNamed B.named, fun w h => hts w (List.mem_cons_of_mem _ h), hK, ⟨Nat.le_refl _, Nat.le_refl _⟩, B.notSynchronized, ⟨σ, hP⟩, hst, hU, hN⟩
        ⟨rfl, B.returns, fun pc => covers_of_empty (B.noHandlers (hts _ List.mem_cons_self)) pc, fun _ _ => ⟨Nat.le_refl _, Nat.le_refl _⟩, rfl, rfl⟩ s.heap [] _ (by rw [hml]; exact lv_entry av hlen) hP hD va_S.rf
      rw [lg_entry_eq]
      obtain ⟨t, a1, oc, b1, b2, b3⟩ := hw s₁ hh0 (Stand.of_body B)
      exact ⟨t, oc, a1, b1, b2, b3⟩
theorem ww_iret {v : Int32} (G : Good K Γ cc own nL fr lo) (E : Ends K Γ (some .int) o q) (d : decode cc pc = .ok (.ireturn, 1)) (h : mm_ri v σ = some (o, q)) : WW K Γ 0 σ pc L [.int v] := by
  obtain ⟨rfl, rfl⟩ : .inr (some (.int v)) = o ∧ σ = q := ⟨congrArg Prod.fst (Option.some.inj h), congrArg Prod.snd (Option.some.inj h)⟩
  obtain ⟨p, l, e, R, s, m, args, below, meth, c, Q, c0, s0⟩ := Γ
  obtain ⟨hx, hb, hml, hown, hts, hK, hR, hlk, hz, hst, hU, hN⟩ := G
  obtain ⟨rfl, hr, hex, hc, rfl, rfl⟩ := E
  intro H locs ls hl hP hD hS
  exact W.iret hx hb hr (fun t ht hW => ⟨rfl, Wd.of hK hU hN hP hD hS ht hW.alike, hS.F ht⟩) hS.2.2 d hlk
theorem ww_zret {v : Int32} (G : Good K Γ cc own nL fr lo) (E : Ends K Γ (some .boolean) o q) (d : decode cc pc = .ok (.ireturn, 1)) (h : mm_rz v σ = some (o, q)) : WW K Γ 0 σ pc L [.int v] := by
  by_cases hv : v = 0 ∨ v = 1
  case neg => rw [mm_rz, if_neg hv] at h; exact nomatch h
  rw [mm_rz, if_pos hv] at h
  obtain ⟨rfl, rfl⟩ : .inr (some (.int v)) = o ∧ σ = q := ⟨congrArg Prod.fst (Option.some.inj h), congrArg Prod.snd (Option.some.inj h)⟩
  obtain ⟨p, l, e, R, s, m, args, below, meth, c, Q, c0, s0⟩ := Γ
  obtain ⟨hx, hb, hml, hown, hts, hK, hR, hlk, hz, hst, hU, hN⟩ := G
  obtain ⟨rfl, hr, hex, hc, rfl, rfl⟩ := E
  intro H locs ls hl hP hD hS
  exact W.zret hx hb hr (by rcases hv with rfl | rfl <;> decide) (fun t ht hW => ⟨rfl, Wd.of hK hU hN hP hD hS ht hW.alike, hS.F ht⟩) hS.2.2 d hlk
theorem ww_lret {v : Int64} (G : Good K Γ cc own nL fr lo) (E : Ends K Γ (some .long) o q) (d : decode cc pc = .ok (.lreturn, 1)) (h : mm_rj v σ = some (o, q)) : WW K Γ 0 σ pc L [.long v] := by
  obtain ⟨rfl, rfl⟩ : .inr (some (.long v)) = o ∧ σ = q := ⟨congrArg Prod.fst (Option.some.inj h), congrArg Prod.snd (Option.some.inj h)⟩
  obtain ⟨p, l, e, R, s, m, args, below, meth, c, Q, c0, s0⟩ := Γ
  obtain ⟨hx, hb, hml, hown, hts, hK, hR, hlk, hz, hst, hU, hN⟩ := G
  obtain ⟨rfl, hr, hex, hc, rfl, rfl⟩ := E
  intro H locs ls hl hP hD hS
  exact W.lret hx hb hr (fun t ht hW => ⟨rfl, Wd.of hK hU hN hP hD hS ht hW.alike, hS.F ht⟩) hS.2.2 d hlk
theorem ww_vret (G : Good K Γ cc own nL fr lo) (E : Ends K Γ none o q) (d : decode cc pc = .ok (.return_, 1)) (h : mm_rv σ = some (o, q)) : WW K Γ 0 σ pc L [] := by
  obtain ⟨rfl, rfl⟩ : .inr none = o ∧ σ = q := ⟨congrArg Prod.fst (Option.some.inj h), congrArg Prod.snd (Option.some.inj h)⟩
  obtain ⟨p, l, e, R, s, m, args, below, meth, c, Q, c0, s0⟩ := Γ
  obtain ⟨hx, hb, hml, hown, hts, hK, hR, hlk, hz, hst, hU, hN⟩ := G
  obtain ⟨rfl, hr, hex, hc, rfl, rfl⟩ := E
  intro H locs ls hl hP hD hS
  exact W.vret hx hb hr (fun t ht hW => ⟨rfl, Wd.of hK hU hN hP hD hS ht hW.alike, hS.F ht⟩) hS.2.2 d hlk
-- behind a call that returns
theorem ran_ret {p : Program} {l : Launch} {e : Env} {R : Room} {s : State} {m : MethodId} {args : Array Value} {below : List Frame} {meth : Method} {c : Code} {H : Heap} {locs : List Loc} {cells slots : Nat} {Q : State → Prop} {ls : Array Slot} {st0 rest : List Value} {a : Array Value} {r : Option Value} {q1 : Mem}
    (hr : va_Run p l e R s m args below meth c H locs cells slots 0 0 (F0 m pc ls st0) rest (QcR K r q1 a) (AK K)) (hS : va_S (AK K) s.heap H locs)
    (kk : ∀ (H1 : Heap) (locs1 : List Loc), va_P K.2.1 vwCl (FL K q1) H1 → va_D (AK K) (FL K q1) → va_S (AK K) s.heap H1 locs1 → W p l e R s m args below meth c H1 locs1 cells slots Q (F0 m (pc + 3) ls (r.toList ++ rest))) :
    W p l e R s m args below meth c H locs cells slots Q (F0 m pc ls st0) := by
  intro T hT X
  obtain ⟨v, st₀, t, T', L, h0, X', hL, e1, e2, ⟨hv, hW, hF⟩, st⟩ := hr T hT X
  cases hv
  obtain ⟨hz, hk⟩ := hF
  rw [h0] at hz hk
  have hS' : va_S (AK K) s.heap T'.heap (locs ++ L) := ⟨Nat.le_trans hS.1 (by rw [e1]; exact hz), fun q h1 h2 => by rw [e1, hk q (Nat.lt_of_lt_of_le h1 hS.1) h2]; exact hS.2.1 q h1 h2, fun q hq => (List.mem_append.mp hq).elim (hS.2.2 q) (hL q)⟩
  obtain ⟨t2, a1, b1⟩ := kk T'.heap (locs ++ L) (by rw [e1]; exact hW.1) hW.2.1 hS' T' rfl X'
  exact ⟨t2, st t2 a1, b1⟩
theorem ww_goR {st0 rest : List Value} {a : Array Value} {r : Option Value} {q1 : Mem} (hr : match Γ with | (p, l, e, R, s, m, args, below, meth, c, Q, c0, s0) => ∀ (H : Heap) (locs : List Loc) (ls : Array Slot), lv_has ls c.maxLocals L → va_P K.2.1 vwCl (FL K σ) H → va_D (AK K) (FL K σ) → va_S (AK K) s.heap H locs → va_Run p l e R s m args below meth c H locs (c0 + 0) (s0 + 6 * 0) 0 0 (F0 m pc ls st0) rest (QcR K r q1 a) (AK K))
    (k : WW K Γ 0 q1 (pc + 3) L (r.toList ++ rest)) : WW K Γ 0 σ pc L st0 := by
  obtain ⟨p, l, e, R, s, m, args, below, meth, c, Q, c0, s0⟩ := Γ
  intro H locs ls hl hP hD hS
  exact ran_ret (hr H locs ls hl hP hD hS) hS (fun H1 locs1 h1 h2 h3 => k H1 locs1 ls hl h1 h2 h3)
theorem ww_callV {As rest : List Value} {i F idx na : Nat} {y : MethodName} {b1 : ByteArray} {mL fr1 lo1 : Nat} {rt1 : Option FieldType} {r : Option Value} {q1 : Mem} (G : Good K Γ cc own nL fr lo) (E : Ends K Γ rt o q) (cs : CsV own idx y b1 mL rt1 na F) (hi : i < cnt F) (hC : Ct (Γ.2.1) K y b1 mL rt1 fr1 lo1 (.ref (aa K F i) :: As) σ (.inr r) q1)
    (hS0 : S = As.reverse ++ .ref (aa K F i) :: rest) (hn : As.length = na) (hw : (rest.map fun v => v.category).sum ≤ 8) (d : decode cc pc = .ok (.invokevirtual idx, 3)) (hR : fr1 + 1 ≤ fr ∧ 8 + (mL + 11) + lo1 ≤ lo) (k : WW K Γ 0 q1 (pc + 3) L (r.toList ++ rest)) : WW K Γ 0 σ pc L S := by
  subst hS0
  refine ww_goR (a := (Value.ref (aa K F i) :: As).toArray) (q1 := q1) (r := r) (rest := rest) ?_ k
  obtain ⟨p, l, e, R, s, m, args, below, meth, c, Q, c0, s0⟩ := Γ
  obtain ⟨hx, hb, hml, hown, hts, hK, hRR, hlk, hz, hst, hU, hN⟩ := G
  obtain ⟨rfl, hrt, hex, hc, rfl, rfl⟩ := E
  obtain ⟨hF, ci, T, N, hcl, hct, hgood, hd⟩ := cs
  intro H locs ls hl hP hD hS
  have hcw : CallW R s args own y.cls idx y b1 mL rt1 (.code y b1 mL rt1 :: wAll) { frames := fr1, cells := 0, slots := 0, locals := lo1 } 0 0 na :=
    cwV na hts hgood rfl rfl rfl ⟨rfl, hd⟩ ⟨Nat.le_trans hR.1 hRR.1, Nat.le_trans hR.2 hRR.2⟩
  obtain ⟨fl, e1⟩ := hct K i (σ.1 F i) (σ.2 F i)
  refine va_runV ⟨hx, hb, rfl, hown, hts⟩ (hC hst) hcw ⟨PcO_blind, ?_, fun U hU' hW => ⟨rfl, Wd.of hK hU hN hP hD hS hU' hW.alike⟩⟩ rfl hn hl.1 rfl (lv_room hw) d ⟨Nat.zero_le _, Nat.zero_le _⟩
  exact va_recv (q := (y.cls, T, N)) hK hP hcl ((FL_at hF hi).trans (by show some (_, ctR K F i (σ.1 F i) (σ.2 F i)) = _; rw [e1]))
theorem ww_callS {As rest : List Value} {idx na : Nat} {y : MethodName} {b1 : ByteArray} {mL fr1 lo1 : Nat} {rt1 : Option FieldType} {r : Option Value} {q1 : Mem} (G : Good K Γ cc own nL fr lo) (E : Ends K Γ rt o q) (cs : CsS own idx y b1 mL rt1 na) (hC : Ct (Γ.2.1) K y b1 mL rt1 fr1 lo1 As σ (.inr r) q1)
    (hS0 : S = As.reverse ++ rest) (hn : As.length = na) (hw : (rest.map fun v => v.category).sum ≤ 8) (d : decode cc pc = .ok (.invokestatic idx, 3)) (hR : fr1 + 1 ≤ fr ∧ 8 + (mL + 11) + lo1 ≤ lo) (k : WW K Γ 0 q1 (pc + 3) L (r.toList ++ rest)) : WW K Γ 0 σ pc L S := by
  subst hS0
  refine ww_goR (a := As.toArray) (q1 := q1) (r := r) (rest := rest) ?_ k
  obtain ⟨p, l, e, R, s, m, args, below, meth, c, Q, c0, s0⟩ := Γ
  obtain ⟨hx, hb, hml, hown, hts, hK, hRR, hlk, hz, hst, hU, hN⟩ := G
  obtain ⟨rfl, hrt, hex, hc, rfl, rfl⟩ := E
  intro H locs ls hl hP hD hS
  have hcw : CallB R s args own idx y b1 mL rt1 (.code y b1 mL rt1 :: wAll) { frames := fr1, cells := 0, slots := 0, locals := lo1 } 0 0 na ∧ (Cond.static y).before args s = true :=
    va_cwS na hts cs.1 rfl rfl rfl cs.2 ⟨Nat.le_trans hR.1 hRR.1, Nat.le_trans hR.2 hRR.2⟩
  exact va_runS ⟨hx, hb, rfl, hown, hts⟩ (hC hst) hcw ⟨PcO_blind, fun U hU' hW => ⟨rfl, Wd.of hK hU hN hP hD hS hU' hW.alike⟩⟩ rfl hn hl.1 rfl (lv_room hw) d ⟨Nat.zero_le _, Nat.zero_le _⟩
theorem ww_cvI {As rest : List Value} {i F : Nat} {idx na : Nat} {y : MethodName} {b1 : ByteArray} {mL fr1 lo1 : Nat} {rt1 : Option FieldType} {X : RR} {k : Int32 → Mem → RR} (G : Good K Γ cc own nL fr lo) (E : Ends K Γ rt o q) (cs : CsV own idx y b1 mL rt1 na F) (hi : i < cnt F) (hC : ∀ o1 q1, X = some (o1, q1) → Ct (Γ.2.1) K y b1 mL rt1 fr1 lo1 (.ref (aa K F i) :: As) σ o1 q1) (hS0 : S = As.reverse ++ .ref (aa K F i) :: rest) (hn : As.length = na) (hw : (rest.map fun v => v.category).sum ≤ 8) (d : decode cc pc = .ok (.invokevirtual idx, 3)) (hR : fr1 + 1 ≤ fr ∧ 8 + (mL + 11) + lo1 ≤ lo) (h : mm_cI X k = some (o, q)) (kk : ∀ v s, k v s = some (o, q) → WW K Γ 0 s (pc + 3) L (.int v :: rest)) : WW K Γ 0 σ pc L S := by
  unfold mm_cI at h
  split at h
  · exact ww_callV G E cs hi (hC _ _ rfl) hS0 hn hw d hR (kk _ _ h)
  · exact nomatch h
theorem ww_cvJ {As rest : List Value} {i F : Nat} {idx na : Nat} {y : MethodName} {b1 : ByteArray} {mL fr1 lo1 : Nat} {rt1 : Option FieldType} {X : RR} {k : Int64 → Mem → RR} (G : Good K Γ cc own nL fr lo) (E : Ends K Γ rt o q) (cs : CsV own idx y b1 mL rt1 na F) (hi : i < cnt F) (hC : ∀ o1 q1, X = some (o1, q1) → Ct (Γ.2.1) K y b1 mL rt1 fr1 lo1 (.ref (aa K F i) :: As) σ o1 q1) (hS0 : S = As.reverse ++ .ref (aa K F i) :: rest) (hn : As.length = na) (hw : (rest.map fun v => v.category).sum ≤ 8) (d : decode cc pc = .ok (.invokevirtual idx, 3)) (hR : fr1 + 1 ≤ fr ∧ 8 + (mL + 11) + lo1 ≤ lo) (h : mm_cJ X k = some (o, q)) (kk : ∀ v s, k v s = some (o, q) → WW K Γ 0 s (pc + 3) L (.long v :: rest)) : WW K Γ 0 σ pc L S := by
  unfold mm_cJ at h
  split at h
  · exact ww_callV G E cs hi (hC _ _ rfl) hS0 hn hw d hR (kk _ _ h)
  · exact nomatch h
theorem ww_cvV {As rest : List Value} {i F : Nat} {idx na : Nat} {y : MethodName} {b1 : ByteArray} {mL fr1 lo1 : Nat} {rt1 : Option FieldType} {X : RR} {k : Mem → RR} (G : Good K Γ cc own nL fr lo) (E : Ends K Γ rt o q) (cs : CsV own idx y b1 mL rt1 na F) (hi : i < cnt F) (hC : ∀ o1 q1, X = some (o1, q1) → Ct (Γ.2.1) K y b1 mL rt1 fr1 lo1 (.ref (aa K F i) :: As) σ o1 q1) (hS0 : S = As.reverse ++ .ref (aa K F i) :: rest) (hn : As.length = na) (hw : (rest.map fun v => v.category).sum ≤ 8) (d : decode cc pc = .ok (.invokevirtual idx, 3)) (hR : fr1 + 1 ≤ fr ∧ 8 + (mL + 11) + lo1 ≤ lo) (h : mm_cV X k = some (o, q)) (kk : ∀ s, k s = some (o, q) → WW K Γ 0 s (pc + 3) L (rest)) : WW K Γ 0 σ pc L S := by
  unfold mm_cV at h
  split at h
  · exact ww_callV G E cs hi (hC _ _ rfl) hS0 hn hw d hR (kk _ h)
  · exact nomatch h
theorem ww_csI {As rest : List Value} {idx na : Nat} {y : MethodName} {b1 : ByteArray} {mL fr1 lo1 : Nat} {rt1 : Option FieldType} {X : RR} {k : Int32 → Mem → RR} (G : Good K Γ cc own nL fr lo) (E : Ends K Γ rt o q) (cs : CsS own idx y b1 mL rt1 na) (hC : ∀ o1 q1, X = some (o1, q1) → Ct (Γ.2.1) K y b1 mL rt1 fr1 lo1 As σ o1 q1) (hS0 : S = As.reverse ++ rest) (hn : As.length = na) (hw : (rest.map fun v => v.category).sum ≤ 8) (d : decode cc pc = .ok (.invokestatic idx, 3)) (hR : fr1 + 1 ≤ fr ∧ 8 + (mL + 11) + lo1 ≤ lo) (h : mm_cI X k = some (o, q)) (kk : ∀ v s, k v s = some (o, q) → WW K Γ 0 s (pc + 3) L (.int v :: rest)) : WW K Γ 0 σ pc L S := by
  unfold mm_cI at h
  split at h
  · exact ww_callS G E cs (hC _ _ rfl) hS0 hn hw d hR (kk _ _ h)
  · exact nomatch h
theorem ww_csJ {As rest : List Value} {idx na : Nat} {y : MethodName} {b1 : ByteArray} {mL fr1 lo1 : Nat} {rt1 : Option FieldType} {X : RR} {k : Int64 → Mem → RR} (G : Good K Γ cc own nL fr lo) (E : Ends K Γ rt o q) (cs : CsS own idx y b1 mL rt1 na) (hC : ∀ o1 q1, X = some (o1, q1) → Ct (Γ.2.1) K y b1 mL rt1 fr1 lo1 As σ o1 q1) (hS0 : S = As.reverse ++ rest) (hn : As.length = na) (hw : (rest.map fun v => v.category).sum ≤ 8) (d : decode cc pc = .ok (.invokestatic idx, 3)) (hR : fr1 + 1 ≤ fr ∧ 8 + (mL + 11) + lo1 ≤ lo) (h : mm_cJ X k = some (o, q)) (kk : ∀ v s, k v s = some (o, q) → WW K Γ 0 s (pc + 3) L (.long v :: rest)) : WW K Γ 0 σ pc L S := by
  unfold mm_cJ at h
  split at h
  · exact ww_callS G E cs (hC _ _ rfl) hS0 hn hw d hR (kk _ _ h)
  · exact nomatch h
theorem ww_csV {As rest : List Value} {idx na : Nat} {y : MethodName} {b1 : ByteArray} {mL fr1 lo1 : Nat} {rt1 : Option FieldType} {X : RR} {k : Mem → RR} (G : Good K Γ cc own nL fr lo) (E : Ends K Γ rt o q) (cs : CsS own idx y b1 mL rt1 na) (hC : ∀ o1 q1, X = some (o1, q1) → Ct (Γ.2.1) K y b1 mL rt1 fr1 lo1 As σ o1 q1) (hS0 : S = As.reverse ++ rest) (hn : As.length = na) (hw : (rest.map fun v => v.category).sum ≤ 8) (d : decode cc pc = .ok (.invokestatic idx, 3)) (hR : fr1 + 1 ≤ fr ∧ 8 + (mL + 11) + lo1 ≤ lo) (h : mm_cV X k = some (o, q)) (kk : ∀ s, k s = some (o, q) → WW K Γ 0 s (pc + 3) L (rest)) : WW K Γ 0 σ pc L S := by
  unfold mm_cV at h
  split at h
  · exact ww_callS G E cs (hC _ _ rfl) hS0 hn hw d hR (kk _ h)
  · exact nomatch h
theorem ww_tsV {As rest : List Value} {idx na : Nat} {y : MethodName} {b1 : ByteArray} {mL fr1 lo1 : Nat} {rt1 : Option FieldType} {X : RR} {k : Mem → RR} (G : Good K Γ cc own nL fr lo) (E : Ends K Γ rt o q) (cs : CsS own idx y b1 mL rt1 na) (hC : ∀ o1 q1, X = some (o1, q1) → Ct (Γ.2.1) K y b1 mL rt1 fr1 lo1 As σ o1 q1) (hS0 : S = As.reverse ++ rest) (hn : As.length = na) (hw : (rest.map fun v => v.category).sum ≤ 8) (d : decode cc pc = .ok (.invokestatic idx, 3)) (hR : fr1 + 1 ≤ fr ∧ 8 + (mL + 11) + lo1 ≤ lo) (h : mm_tV X k = some (o, q)) (kk : ∀ s, k s = some (o, q) → WW K Γ 0 s (pc + 3) L (rest)) : WW K Γ 0 σ pc L S := by
  unfold mm_tV at h
  split at h
  · exact ww_callS G E cs (hC _ _ rfl) hS0 hn hw d hR (kk _ h)
  · sorry
  · exact nomatch h
theorem ww_thr {cls : String} {ik ic e1 : Nat} (G : Good K Γ cc own nL fr lo) (E : Ends K Γ rt o q) (xs : Xs own ik ic cls e1) (d0 : decode cc pc = .ok (.new ik, 3)) (d3 : decode cc (pc + 3) = .ok (.dup, 1)) (d4 : decode cc (pc + 4) = .ok (.invokespecial ic, 3)) (d7 : decode cc (pc + 7) = .ok (.athrow, 1)) (hf : 6 ≤ fr ∧ 89 ≤ lo) (h : mm_th e1 σ = some (o, q)) : WW K Γ 0 σ pc L S := by
  sorry
theorem ww_acopy {F i N F2 i2 N2 idx : Nat} {sp dp w : Int32} {k : Mem → RR} (G : Good K Γ cc own nL fr lo) (ac : Ac own idx) (a1 : ArJ F N) (h1 : i < cnt F) (a2 : ArJ F2 N2) (h2 : i2 < cnt F2) (hne : F ≠ F2) (d : decode cc pc = .ok (.invokestatic idx, 3)) (h : mm_cp σ F i N sp F2 i2 N2 dp w k = some (o, q)) (kk : ∀ s, k s = some (o, q) → WW K Γ 0 s (pc + 3) L S) : WW K Γ 0 σ pc L (.int w :: .int dp :: .ref (aa K F2 i2) :: .int sp :: .ref (aa K F i) :: S) := by
  sorry
-- the library's own
theorem ww_mmax {x y : Int32} {idx : Nat} (G : Good K Γ cc own nL fr lo) (mx : Mx own idx Lib.Math.max.name Lib.Math.max.code) (hf : 1 ≤ fr ∧ 21 ≤ lo) (hw : (S.map fun v => v.category).sum ≤ 8) (d : decode cc pc = .ok (.invokestatic idx, 3)) (k : WW K Γ 0 σ (pc + 3) L (.int (mm_max x y) :: S)) : WW K Γ 0 σ pc L (.int y :: .int x :: S) := by
  sorry
theorem ww_mmin {x y : Int32} {idx : Nat} (G : Good K Γ cc own nL fr lo) (mx : Mx own idx Lib.Math.min.name Lib.Math.min.code) (hf : 1 ≤ fr ∧ 21 ≤ lo) (hw : (S.map fun v => v.category).sum ≤ 8) (d : decode cc pc = .ok (.invokestatic idx, 3)) (k : WW K Γ 0 σ (pc + 3) L (.int (mm_min x y) :: S)) : WW K Γ 0 σ pc L (.int y :: .int x :: S) := by
  sorry
end VCalls
end
section
theorem ib_6 : (Int8.ofInt 6).toInt32 = (6 : Int32) := by decide
theorem ib_7 : (Int8.ofInt 7).toInt32 = (7 : Int32) := by decide
theorem ib_8 : (Int8.ofInt 8).toInt32 = (8 : Int32) := by decide
theorem ib_10 : (Int8.ofInt 10).toInt32 = (10 : Int32) := by decide
theorem ib_11 : (Int8.ofInt 11).toInt32 = (11 : Int32) := by decide
theorem ib_12 : (Int8.ofInt 12).toInt32 = (12 : Int32) := by decide
theorem ib_16 : (Int8.ofInt 16).toInt32 = (16 : Int32) := by decide
theorem ib_24 : (Int8.ofInt 24).toInt32 = (24 : Int32) := by decide
theorem ib_27 : (Int8.ofInt 27).toInt32 = (27 : Int32) := by decide
theorem ib_32 : (Int8.ofInt 32).toInt32 = (32 : Int32) := by decide
theorem ib_40 : (Int8.ofInt 40).toInt32 = (40 : Int32) := by decide
theorem ib_41 : (Int8.ofInt 41).toInt32 = (41 : Int32) := by decide
theorem ib_64 : (Int8.ofInt 64).toInt32 = (64 : Int32) := by decide
theorem ic_m1 : Int32.ofInt (-1) = (-1 : Int32) := by decide
theorem ic_0 : Int32.ofInt 0 = (0 : Int32) := by decide
theorem ic_1 : Int32.ofInt 1 = (1 : Int32) := by decide
theorem ic_2 : Int32.ofInt 2 = (2 : Int32) := by decide
theorem ic_3 : Int32.ofInt 3 = (3 : Int32) := by decide
theorem ic_4 : Int32.ofInt 4 = (4 : Int32) := by decide
theorem ic_5 : Int32.ofInt 5 = (5 : Int32) := by decide
theorem ic_10080 : Int32.ofInt 10080 = (10080 : Int32) := by decide
theorem is_168 : (Int16.ofInt 168).toInt32 = (168 : Int32) := by decide
theorem is_200 : (Int16.ofInt 200).toInt32 = (200 : Int32) := by decide
theorem is_201 : (Int16.ofInt 201).toInt32 = (201 : Int32) := by decide
theorem is_255 : (Int16.ofInt 255).toInt32 = (255 : Int32) := by decide
theorem is_7200 : (Int16.ofInt 7200).toInt32 = (7200 : Int32) := by decide
theorem is_10079 : (Int16.ofInt 10079).toInt32 = (10079 : Int32) := by decide
theorem is_10080 : (Int16.ofInt 10080).toInt32 = (10080 : Int32) := by decide
theorem is_20000 : (Int16.ofInt 20000).toInt32 = (20000 : Int32) := by decide
theorem is_20160 : (Int16.ofInt 20160).toInt32 = (20160 : Int32) := by decide
theorem lc_0 : Int64.ofNat ((0 : Fin 2) : Nat) = (0 : Int64) := by decide
theorem kw_M_133 : Cond.constant "VillageMailModel" 133 (2147483647 : Int32) ∈ wAll := wa_at (i := 890) (by decide +kernel) rfl
theorem kw_M_141 : Cond.constant "VillageMailModel" 141 (2000000000 : Int32) ∈ wAll := wa_at (i := 885) (by decide +kernel) rfl
theorem kw_R_29 : Cond.constant "VillageMail$Ride" 29 (2147483647 : Int32) ∈ wAll := wa_at (i := 503) (by decide +kernel) rfl
theorem kw_X_110 : Cond.constant "VillageMail" 110 (2000000000 : Int32) ∈ wAll := wa_at (i := 719) (by decide +kernel) rfl
theorem kw_X_123 : Cond.constant "VillageMail" 123 (2147483647 : Int32) ∈ wAll := wa_at (i := 516) (by decide +kernel) rfl
theorem kw_X_353 : Cond.constantLong "VillageMail" 353 (255 : Int64) ∈ wAll := wa_at (i := 283) (by decide +kernel) rfl
theorem fs_B_15 : FsI "VillageMail$Box" 15 16 3 .int false := ⟨by decide, 0, "VillageMail$Box", T_B, 4, ty_B, rfl, by decide, in_B, wa_at (i := 117) (by decide +kernel) rfl, fun K i r j => ⟨_, rfl, rfl, Nat.le_of_ble_eq_true rfl, fun v => rfl⟩, tk_B, nm_B, rfl, by decide +kernel⟩
theorem fs_B_19 : FsI "VillageMail$Box" 19 16 2 .int false := ⟨by decide, 0, "VillageMail$Box", T_B, 4, ty_B, rfl, by decide, in_B, wa_at (i := 115) (by decide +kernel) rfl, fun K i r j => ⟨_, rfl, rfl, Nat.le_of_ble_eq_true rfl, fun v => rfl⟩, tk_B, nm_B, rfl, by decide +kernel⟩
theorem fs_B_22 : FsI "VillageMail$Box" 22 16 1 .int false := ⟨by decide, 0, "VillageMail$Box", T_B, 4, ty_B, rfl, by decide, in_B, wa_at (i := 113) (by decide +kernel) rfl, fun K i r j => ⟨_, rfl, rfl, Nat.le_of_ble_eq_true rfl, fun v => rfl⟩, tk_B, nm_B, rfl, by decide +kernel⟩
theorem fs_B_9 : FsR "VillageMail$Box" 9 16 0 17 (fun i => i) := ⟨by decide, 0, "VillageMail$Box", T_B, 4, rfl, by decide, in_B, wa_at (i := 111) (by decide +kernel) rfl, fun K i r j => ⟨_, rfl, rfl⟩⟩
theorem fs_C_11 : FsR "VillageMail$Boxes" 11 13 0 14 (fun i => i) := ⟨by decide, 1, "VillageMail$Boxes", T_C, 2, rfl, by decide, in_C, wa_at (i := 128) (by decide +kernel) rfl, fun K i r j => ⟨_, rfl, rfl⟩⟩
theorem fs_C_18 : FsR "VillageMail$Boxes" 18 13 1 15 (fun i => i) := ⟨by decide, 1, "VillageMail$Boxes", T_C, 2, rfl, by decide, in_C, wa_at (i := 130) (by decide +kernel) rfl, fun K i r j => ⟨_, rfl, rfl⟩⟩
theorem fs_M_101 : FsR "VillageMailModel" 101 30 37 61 (fun i => 0) := ⟨by decide, 8, "VillageMailModel", T_M, 38, rfl, by decide, in_M, wa_at (i := 770) (by decide +kernel) rfl, fun K i r j => ⟨_, rfl, rfl⟩⟩
theorem fs_M_104 : FsI "VillageMailModel" 104 30 31 .int false := ⟨by decide, 8, "VillageMailModel", T_M, 38, ty_M, rfl, by decide, in_M, wa_at (i := 764) (by decide +kernel) rfl, fun K i r j => ⟨_, rfl, rfl, Nat.le_of_ble_eq_true rfl, fun v => rfl⟩, tk_M, nm_M, rfl, by decide +kernel⟩
theorem fs_M_112 : FsI "VillageMailModel" 112 30 7 .int false := ⟨by decide, 8, "VillageMailModel", T_M, 38, ty_M, rfl, by decide, in_M, wa_at (i := 740) (by decide +kernel) rfl, fun K i r j => ⟨_, rfl, rfl, Nat.le_of_ble_eq_true rfl, fun v => rfl⟩, tk_M, nm_M, rfl, by decide +kernel⟩
theorem fs_M_13 : FsR "VillageMailModel" 13 30 1 32 (fun i => 0) := ⟨by decide, 8, "VillageMailModel", T_M, 38, rfl, by decide, in_M, wa_at (i := 734) (by decide +kernel) rfl, fun K i r j => ⟨_, rfl, rfl⟩⟩
theorem fs_M_130 : FsI "VillageMailModel" 130 30 4 .int false := ⟨by decide, 8, "VillageMailModel", T_M, 38, ty_M, rfl, by decide, in_M, wa_at (i := 737) (by decide +kernel) rfl, fun K i r j => ⟨_, rfl, rfl, Nat.le_of_ble_eq_true rfl, fun v => rfl⟩, tk_M, nm_M, rfl, by decide +kernel⟩
theorem fs_M_16 : FsR "VillageMailModel" 16 30 2 33 (fun i => 0) := ⟨by decide, 8, "VillageMailModel", T_M, 38, rfl, by decide, in_M, wa_at (i := 735) (by decide +kernel) rfl, fun K i r j => ⟨_, rfl, rfl⟩⟩
theorem fs_M_180 : FsI "VillageMailModel" 180 30 30 .int false := ⟨by decide, 8, "VillageMailModel", T_M, 38, ty_M, rfl, by decide, in_M, wa_at (i := 763) (by decide +kernel) rfl, fun K i r j => ⟨_, rfl, rfl, Nat.le_of_ble_eq_true rfl, fun v => rfl⟩, tk_M, nm_M, rfl, by decide +kernel⟩
theorem fs_M_186 : FsI "VillageMailModel" 186 30 5 .int false := ⟨by decide, 8, "VillageMailModel", T_M, 38, ty_M, rfl, by decide, in_M, wa_at (i := 738) (by decide +kernel) rfl, fun K i r j => ⟨_, rfl, rfl, Nat.le_of_ble_eq_true rfl, fun v => rfl⟩, tk_M, nm_M, rfl, by decide +kernel⟩
theorem fs_M_19 : FsR "VillageMailModel" 19 30 3 34 (fun i => 0) := ⟨by decide, 8, "VillageMailModel", T_M, 38, rfl, by decide, in_M, wa_at (i := 736) (by decide +kernel) rfl, fun K i r j => ⟨_, rfl, rfl⟩⟩
theorem fs_M_198 : FsI "VillageMailModel" 198 30 35 .int false := ⟨by decide, 8, "VillageMailModel", T_M, 38, ty_M, rfl, by decide, in_M, wa_at (i := 768) (by decide +kernel) rfl, fun K i r j => ⟨_, rfl, rfl, Nat.le_of_ble_eq_true rfl, fun v => rfl⟩, tk_M, nm_M, rfl, by decide +kernel⟩
theorem fs_M_201 : FsI "VillageMailModel" 201 30 36 .int false := ⟨by decide, 8, "VillageMailModel", T_M, 38, ty_M, rfl, by decide, in_M, wa_at (i := 769) (by decide +kernel) rfl, fun K i r j => ⟨_, rfl, rfl, Nat.le_of_ble_eq_true rfl, fun v => rfl⟩, tk_M, nm_M, rfl, by decide +kernel⟩
theorem fs_M_22 : FsR "VillageMailModel" 22 30 6 35 (fun i => 0) := ⟨by decide, 8, "VillageMailModel", T_M, 38, rfl, by decide, in_M, wa_at (i := 739) (by decide +kernel) rfl, fun K i r j => ⟨_, rfl, rfl⟩⟩
theorem fs_M_25 : FsR "VillageMailModel" 25 30 8 36 (fun i => 0) := ⟨by decide, 8, "VillageMailModel", T_M, 38, rfl, by decide, in_M, wa_at (i := 741) (by decide +kernel) rfl, fun K i r j => ⟨_, rfl, rfl⟩⟩
theorem fs_M_28 : FsR "VillageMailModel" 28 30 9 37 (fun i => 0) := ⟨by decide, 8, "VillageMailModel", T_M, 38, rfl, by decide, in_M, wa_at (i := 742) (by decide +kernel) rfl, fun K i r j => ⟨_, rfl, rfl⟩⟩
theorem fs_M_31 : FsR "VillageMailModel" 31 30 10 38 (fun i => 0) := ⟨by decide, 8, "VillageMailModel", T_M, 38, rfl, by decide, in_M, wa_at (i := 743) (by decide +kernel) rfl, fun K i r j => ⟨_, rfl, rfl⟩⟩
theorem fs_M_34 : FsR "VillageMailModel" 34 30 11 39 (fun i => 0) := ⟨by decide, 8, "VillageMailModel", T_M, 38, rfl, by decide, in_M, wa_at (i := 744) (by decide +kernel) rfl, fun K i r j => ⟨_, rfl, rfl⟩⟩
theorem fs_M_37 : FsR "VillageMailModel" 37 30 12 40 (fun i => 0) := ⟨by decide, 8, "VillageMailModel", T_M, 38, rfl, by decide, in_M, wa_at (i := 745) (by decide +kernel) rfl, fun K i r j => ⟨_, rfl, rfl⟩⟩
theorem fs_M_40 : FsR "VillageMailModel" 40 30 13 41 (fun i => 0) := ⟨by decide, 8, "VillageMailModel", T_M, 38, rfl, by decide, in_M, wa_at (i := 746) (by decide +kernel) rfl, fun K i r j => ⟨_, rfl, rfl⟩⟩
theorem fs_M_43 : FsR "VillageMailModel" 43 30 14 42 (fun i => 0) := ⟨by decide, 8, "VillageMailModel", T_M, 38, rfl, by decide, in_M, wa_at (i := 747) (by decide +kernel) rfl, fun K i r j => ⟨_, rfl, rfl⟩⟩
theorem fs_M_46 : FsR "VillageMailModel" 46 30 15 43 (fun i => 0) := ⟨by decide, 8, "VillageMailModel", T_M, 38, rfl, by decide, in_M, wa_at (i := 748) (by decide +kernel) rfl, fun K i r j => ⟨_, rfl, rfl⟩⟩
theorem fs_M_49 : FsR "VillageMailModel" 49 30 16 44 (fun i => 0) := ⟨by decide, 8, "VillageMailModel", T_M, 38, rfl, by decide, in_M, wa_at (i := 749) (by decide +kernel) rfl, fun K i r j => ⟨_, rfl, rfl⟩⟩
theorem fs_M_53 : FsR "VillageMailModel" 53 30 17 45 (fun i => 0) := ⟨by decide, 8, "VillageMailModel", T_M, 38, rfl, by decide, in_M, wa_at (i := 750) (by decide +kernel) rfl, fun K i r j => ⟨_, rfl, rfl⟩⟩
theorem fs_M_56 : FsR "VillageMailModel" 56 30 18 46 (fun i => 0) := ⟨by decide, 8, "VillageMailModel", T_M, 38, rfl, by decide, in_M, wa_at (i := 751) (by decide +kernel) rfl, fun K i r j => ⟨_, rfl, rfl⟩⟩
theorem fs_M_59 : FsR "VillageMailModel" 59 30 19 47 (fun i => 0) := ⟨by decide, 8, "VillageMailModel", T_M, 38, rfl, by decide, in_M, wa_at (i := 752) (by decide +kernel) rfl, fun K i r j => ⟨_, rfl, rfl⟩⟩
theorem fs_M_62 : FsR "VillageMailModel" 62 30 20 48 (fun i => 0) := ⟨by decide, 8, "VillageMailModel", T_M, 38, rfl, by decide, in_M, wa_at (i := 753) (by decide +kernel) rfl, fun K i r j => ⟨_, rfl, rfl⟩⟩
theorem fs_M_65 : FsR "VillageMailModel" 65 30 21 49 (fun i => 0) := ⟨by decide, 8, "VillageMailModel", T_M, 38, rfl, by decide, in_M, wa_at (i := 754) (by decide +kernel) rfl, fun K i r j => ⟨_, rfl, rfl⟩⟩
theorem fs_M_68 : FsR "VillageMailModel" 68 30 22 50 (fun i => 0) := ⟨by decide, 8, "VillageMailModel", T_M, 38, rfl, by decide, in_M, wa_at (i := 755) (by decide +kernel) rfl, fun K i r j => ⟨_, rfl, rfl⟩⟩
theorem fs_M_7 : FsR "VillageMailModel" 7 30 0 31 (fun i => 0) := ⟨by decide, 8, "VillageMailModel", T_M, 38, rfl, by decide, in_M, wa_at (i := 733) (by decide +kernel) rfl, fun K i r j => ⟨_, rfl, rfl⟩⟩
theorem fs_M_71 : FsR "VillageMailModel" 71 30 23 51 (fun i => 0) := ⟨by decide, 8, "VillageMailModel", T_M, 38, rfl, by decide, in_M, wa_at (i := 756) (by decide +kernel) rfl, fun K i r j => ⟨_, rfl, rfl⟩⟩
theorem fs_M_74 : FsR "VillageMailModel" 74 30 24 52 (fun i => 0) := ⟨by decide, 8, "VillageMailModel", T_M, 38, rfl, by decide, in_M, wa_at (i := 757) (by decide +kernel) rfl, fun K i r j => ⟨_, rfl, rfl⟩⟩
theorem fs_M_77 : FsR "VillageMailModel" 77 30 25 53 (fun i => 0) := ⟨by decide, 8, "VillageMailModel", T_M, 38, rfl, by decide, in_M, wa_at (i := 758) (by decide +kernel) rfl, fun K i r j => ⟨_, rfl, rfl⟩⟩
theorem fs_M_80 : FsR "VillageMailModel" 80 30 26 54 (fun i => 0) := ⟨by decide, 8, "VillageMailModel", T_M, 38, rfl, by decide, in_M, wa_at (i := 759) (by decide +kernel) rfl, fun K i r j => ⟨_, rfl, rfl⟩⟩
theorem fs_M_83 : FsR "VillageMailModel" 83 30 27 55 (fun i => 0) := ⟨by decide, 8, "VillageMailModel", T_M, 38, rfl, by decide, in_M, wa_at (i := 760) (by decide +kernel) rfl, fun K i r j => ⟨_, rfl, rfl⟩⟩
theorem fs_M_86 : FsR "VillageMailModel" 86 30 28 56 (fun i => 0) := ⟨by decide, 8, "VillageMailModel", T_M, 38, rfl, by decide, in_M, wa_at (i := 761) (by decide +kernel) rfl, fun K i r j => ⟨_, rfl, rfl⟩⟩
theorem fs_M_89 : FsR "VillageMailModel" 89 30 29 57 (fun i => 0) := ⟨by decide, 8, "VillageMailModel", T_M, 38, rfl, by decide, in_M, wa_at (i := 762) (by decide +kernel) rfl, fun K i r j => ⟨_, rfl, rfl⟩⟩
theorem fs_M_92 : FsR "VillageMailModel" 92 30 32 58 (fun i => 0) := ⟨by decide, 8, "VillageMailModel", T_M, 38, rfl, by decide, in_M, wa_at (i := 765) (by decide +kernel) rfl, fun K i r j => ⟨_, rfl, rfl⟩⟩
theorem fs_M_95 : FsR "VillageMailModel" 95 30 33 59 (fun i => 0) := ⟨by decide, 8, "VillageMailModel", T_M, 38, rfl, by decide, in_M, wa_at (i := 766) (by decide +kernel) rfl, fun K i r j => ⟨_, rfl, rfl⟩⟩
theorem fs_M_98 : FsR "VillageMailModel" 98 30 34 60 (fun i => 0) := ⟨by decide, 8, "VillageMailModel", T_M, 38, rfl, by decide, in_M, wa_at (i := 767) (by decide +kernel) rfl, fun K i r j => ⟨_, rfl, rfl⟩⟩
theorem fs_O_15 : FsI "VillageMail$Offers" 15 26 1 .int false := ⟨by decide, 3, "VillageMail$Offers", T_O, 2, ty_O, rfl, by decide, in_O, wa_at (i := 204) (by decide +kernel) rfl, fun K i r j => ⟨_, rfl, rfl, Nat.le_of_ble_eq_true rfl, fun v => rfl⟩, tk_O, nm_O, rfl, by decide +kernel⟩
theorem fs_O_9 : FsR "VillageMail$Offers" 9 26 0 27 (fun i => i) := ⟨by decide, 3, "VillageMail$Offers", T_O, 2, rfl, by decide, in_O, wa_at (i := 202) (by decide +kernel) rfl, fun K i r j => ⟨_, rfl, rfl⟩⟩
theorem fs_R_15 : FsR "VillageMail$Ride" 15 22 1 24 (fun i => i) := ⟨by decide, 4, "VillageMail$Ride", T_R, 3, rfl, by decide, in_R, wa_at (i := 186) (by decide +kernel) rfl, fun K i r j => ⟨_, rfl, rfl⟩⟩
theorem fs_R_18 : FsR "VillageMail$Ride" 18 22 2 25 (fun i => i) := ⟨by decide, 4, "VillageMail$Ride", T_R, 3, rfl, by decide, in_R, wa_at (i := 187) (by decide +kernel) rfl, fun K i r j => ⟨_, rfl, rfl⟩⟩
theorem fs_R_42 : FsI "VillageMail$Ride" 42 1 3 .int false := ⟨by decide, 6, "VillageMail$Timetable", T_T, 4, ty_T, rfl, by decide, in_T, wa_at (i := 42) (by decide +kernel) rfl, fun K i r j => ⟨_, rfl, rfl, Nat.le_of_ble_eq_true rfl, fun v => rfl⟩, tk_T, nm_T, rfl, by decide +kernel⟩
theorem fs_R_48 : FsR "VillageMail$Ride" 48 1 2 4 (fun i => i) := ⟨by decide, 6, "VillageMail$Timetable", T_T, 4, rfl, by decide, in_T, wa_at (i := 39) (by decide +kernel) rfl, fun K i r j => ⟨_, rfl, rfl⟩⟩
theorem fs_R_51 : FsR "VillageMail$Ride" 51 1 0 2 (fun i => i) := ⟨by decide, 6, "VillageMail$Timetable", T_T, 4, rfl, by decide, in_T, wa_at (i := 35) (by decide +kernel) rfl, fun K i r j => ⟨_, rfl, rfl⟩⟩
theorem fs_R_54 : FsR "VillageMail$Ride" 54 1 1 3 (fun i => i) := ⟨by decide, 6, "VillageMail$Timetable", T_T, 4, rfl, by decide, in_T, wa_at (i := 37) (by decide +kernel) rfl, fun K i r j => ⟨_, rfl, rfl⟩⟩
theorem fs_R_9 : FsR "VillageMail$Ride" 9 22 0 23 (fun i => i) := ⟨by decide, 4, "VillageMail$Ride", T_R, 3, rfl, by decide, in_R, wa_at (i := 184) (by decide +kernel) rfl, fun K i r j => ⟨_, rfl, rfl⟩⟩
theorem fs_S_15 : FsR "VillageMail$Store" 15 7 1 8 (fun i => i) := ⟨by decide, 5, "VillageMail$Store", T_S, 9, rfl, by decide, in_S, wa_at (i := 65) (by decide +kernel) rfl, fun K i r j => ⟨_, rfl, rfl⟩⟩
theorem fs_S_25 : FsR "VillageMail$Store" 25 7 2 9 (fun i => i) := ⟨by decide, 5, "VillageMail$Store", T_S, 9, rfl, by decide, in_S, wa_at (i := 67) (by decide +kernel) rfl, fun K i r j => ⟨_, rfl, rfl⟩⟩
theorem fs_S_28 : FsR "VillageMail$Store" 28 7 3 10 (fun i => i) := ⟨by decide, 5, "VillageMail$Store", T_S, 9, rfl, by decide, in_S, wa_at (i := 69) (by decide +kernel) rfl, fun K i r j => ⟨_, rfl, rfl⟩⟩
theorem fs_S_32 : FsR "VillageMail$Store" 32 7 4 11 (fun i => i) := ⟨by decide, 5, "VillageMail$Store", T_S, 9, rfl, by decide, in_S, wa_at (i := 71) (by decide +kernel) rfl, fun K i r j => ⟨_, rfl, rfl⟩⟩
theorem fs_S_35 : FsI "VillageMail$Store" 35 7 5 .int false := ⟨by decide, 5, "VillageMail$Store", T_S, 9, ty_S, rfl, by decide, in_S, wa_at (i := 73) (by decide +kernel) rfl, fun K i r j => ⟨_, rfl, rfl, Nat.le_of_ble_eq_true rfl, fun v => rfl⟩, tk_S, nm_S, rfl, by decide +kernel⟩
theorem fs_S_9 : FsI "VillageMail$Store" 9 7 0 .int true := ⟨by decide, 5, "VillageMail$Store", T_S, 9, ty_S, rfl, by decide, in_S, wa_at (i := 64) (by decide +kernel) rfl, fun K i r j => ⟨_, rfl, rfl, Nat.le_of_ble_eq_true rfl, fun v => rfl⟩, tk_S, nm_S, rfl, by decide +kernel⟩
theorem fs_T_15 : FsR "VillageMail$Timetable" 15 1 1 3 (fun i => i) := ⟨by decide, 6, "VillageMail$Timetable", T_T, 4, rfl, by decide, in_T, wa_at (i := 36) (by decide +kernel) rfl, fun K i r j => ⟨_, rfl, rfl⟩⟩
theorem fs_T_18 : FsR "VillageMail$Timetable" 18 1 2 4 (fun i => i) := ⟨by decide, 6, "VillageMail$Timetable", T_T, 4, rfl, by decide, in_T, wa_at (i := 38) (by decide +kernel) rfl, fun K i r j => ⟨_, rfl, rfl⟩⟩
theorem fs_T_21 : FsI "VillageMail$Timetable" 21 1 3 .int false := ⟨by decide, 6, "VillageMail$Timetable", T_T, 4, ty_T, rfl, by decide, in_T, wa_at (i := 40) (by decide +kernel) rfl, fun K i r j => ⟨_, rfl, rfl, Nat.le_of_ble_eq_true rfl, fun v => rfl⟩, tk_T, nm_T, rfl, by decide +kernel⟩
theorem fs_T_9 : FsR "VillageMail$Timetable" 9 1 0 2 (fun i => i) := ⟨by decide, 6, "VillageMail$Timetable", T_T, 4, rfl, by decide, in_T, wa_at (i := 34) (by decide +kernel) rfl, fun K i r j => ⟨_, rfl, rfl⟩⟩
theorem fs_X_100 : FsI "VillageMail" 100 0 3 .int false := ⟨by decide, 7, "VillageMail", T_X, 16, ty_X, rfl, by decide, in_X, wa_at (i := 214) (by decide +kernel) rfl, fun K i r j => ⟨_, rfl, rfl, Nat.le_of_ble_eq_true rfl, fun v => rfl⟩, tk_X, nm_X, rfl, by decide +kernel⟩
theorem fs_X_107 : FsI "VillageMail" 107 7 6 .int false := ⟨by decide, 5, "VillageMail$Store", T_S, 9, ty_S, rfl, by decide, in_S, wa_at (i := 74) (by decide +kernel) rfl, fun K i r j => ⟨_, rfl, rfl, Nat.le_of_ble_eq_true rfl, fun v => rfl⟩, tk_S, nm_S, rfl, by decide +kernel⟩
theorem fs_X_119 : FsR "VillageMail" 119 22 0 23 (fun i => i) := ⟨by decide, 4, "VillageMail$Ride", T_R, 3, rfl, by decide, in_R, wa_at (i := 185) (by decide +kernel) rfl, fun K i r j => ⟨_, rfl, rfl⟩⟩
theorem fs_X_12 : FsR "VillageMail" 12 0 1 1 (fun i => 7) := ⟨by decide, 7, "VillageMail", T_X, 16, rfl, by decide, in_X, wa_at (i := 212) (by decide +kernel) rfl, fun K i r j => ⟨_, rfl, rfl⟩⟩
theorem fs_X_127 : FsR "VillageMail" 127 13 0 14 (fun i => i) := ⟨by decide, 1, "VillageMail$Boxes", T_C, 2, rfl, by decide, in_C, wa_at (i := 129) (by decide +kernel) rfl, fun K i r j => ⟨_, rfl, rfl⟩⟩
theorem fs_X_131 : FsI "VillageMail" 131 16 3 .int false := ⟨by decide, 0, "VillageMail$Box", T_B, 4, ty_B, rfl, by decide, in_B, wa_at (i := 118) (by decide +kernel) rfl, fun K i r j => ⟨_, rfl, rfl, Nat.le_of_ble_eq_true rfl, fun v => rfl⟩, tk_B, nm_B, rfl, by decide +kernel⟩
theorem fs_X_142 : FsI "VillageMail" 142 16 1 .int false := ⟨by decide, 0, "VillageMail$Box", T_B, 4, ty_B, rfl, by decide, in_B, wa_at (i := 114) (by decide +kernel) rfl, fun K i r j => ⟨_, rfl, rfl, Nat.le_of_ble_eq_true rfl, fun v => rfl⟩, tk_B, nm_B, rfl, by decide +kernel⟩
theorem fs_X_143 : FsI "VillageMail" 143 16 2 .int false := ⟨by decide, 0, "VillageMail$Box", T_B, 4, ty_B, rfl, by decide, in_B, wa_at (i := 116) (by decide +kernel) rfl, fun K i r j => ⟨_, rfl, rfl, Nat.le_of_ble_eq_true rfl, fun v => rfl⟩, tk_B, nm_B, rfl, by decide +kernel⟩
theorem fs_X_150 : FsR "VillageMail" 150 16 0 17 (fun i => i) := ⟨by decide, 0, "VillageMail$Box", T_B, 4, rfl, by decide, in_B, wa_at (i := 112) (by decide +kernel) rfl, fun K i r j => ⟨_, rfl, rfl⟩⟩
theorem fs_X_152 : FsI "VillageMail" 152 19 6 .int false := ⟨by decide, 2, "VillageMail$Letter", T_L, 11, ty_L, rfl, by decide, in_L, wa_at (i := 149) (by decide +kernel) rfl, fun K i r j => ⟨_, rfl, rfl, Nat.le_of_ble_eq_true rfl, fun v => rfl⟩, tk_L, nm_L, rfl, by decide +kernel⟩
theorem fs_X_155 : FsR "VillageMail" 155 19 10 20 (fun i => i) := ⟨by decide, 2, "VillageMail$Letter", T_L, 11, rfl, by decide, in_L, wa_at (i := 154) (by decide +kernel) rfl, fun K i r j => ⟨_, rfl, rfl⟩⟩
theorem fs_X_16 : FsR "VillageMail" 16 0 2 5 (fun i => 0) := ⟨by decide, 7, "VillageMail", T_X, 16, rfl, by decide, in_X, wa_at (i := 213) (by decide +kernel) rfl, fun K i r j => ⟨_, rfl, rfl⟩⟩
theorem fs_X_164 : FsI "VillageMail" 164 0 9 .int false := ⟨by decide, 7, "VillageMail", T_X, 16, ty_X, rfl, by decide, in_X, wa_at (i := 220) (by decide +kernel) rfl, fun K i r j => ⟨_, rfl, rfl, Nat.le_of_ble_eq_true rfl, fun v => rfl⟩, tk_X, nm_X, rfl, by decide +kernel⟩
theorem fs_X_171 : FsI "VillageMail" 171 0 7 .int false := ⟨by decide, 7, "VillageMail", T_X, 16, ty_X, rfl, by decide, in_X, wa_at (i := 218) (by decide +kernel) rfl, fun K i r j => ⟨_, rfl, rfl, Nat.le_of_ble_eq_true rfl, fun v => rfl⟩, tk_X, nm_X, rfl, by decide +kernel⟩
theorem fs_X_182 : FsI "VillageMail" 182 19 0 .int false := ⟨by decide, 2, "VillageMail$Letter", T_L, 11, ty_L, rfl, by decide, in_L, wa_at (i := 143) (by decide +kernel) rfl, fun K i r j => ⟨_, rfl, rfl, Nat.le_of_ble_eq_true rfl, fun v => rfl⟩, tk_L, nm_L, rfl, by decide +kernel⟩
theorem fs_X_185 : FsI "VillageMail" 185 19 1 .int false := ⟨by decide, 2, "VillageMail$Letter", T_L, 11, ty_L, rfl, by decide, in_L, wa_at (i := 144) (by decide +kernel) rfl, fun K i r j => ⟨_, rfl, rfl, Nat.le_of_ble_eq_true rfl, fun v => rfl⟩, tk_L, nm_L, rfl, by decide +kernel⟩
theorem fs_X_188 : FsI "VillageMail" 188 19 2 .int false := ⟨by decide, 2, "VillageMail$Letter", T_L, 11, ty_L, rfl, by decide, in_L, wa_at (i := 145) (by decide +kernel) rfl, fun K i r j => ⟨_, rfl, rfl, Nat.le_of_ble_eq_true rfl, fun v => rfl⟩, tk_L, nm_L, rfl, by decide +kernel⟩
theorem fs_X_191 : FsI "VillageMail" 191 19 3 .int false := ⟨by decide, 2, "VillageMail$Letter", T_L, 11, ty_L, rfl, by decide, in_L, wa_at (i := 146) (by decide +kernel) rfl, fun K i r j => ⟨_, rfl, rfl, Nat.le_of_ble_eq_true rfl, fun v => rfl⟩, tk_L, nm_L, rfl, by decide +kernel⟩
theorem fs_X_194 : FsI "VillageMail" 194 0 0 .int false := ⟨by decide, 7, "VillageMail", T_X, 16, ty_X, rfl, by decide, in_X, wa_at (i := 211) (by decide +kernel) rfl, fun K i r j => ⟨_, rfl, rfl, Nat.le_of_ble_eq_true rfl, fun v => rfl⟩, tk_X, nm_X, rfl, by decide +kernel⟩
theorem fs_X_197 : FsI "VillageMail" 197 19 4 .int false := ⟨by decide, 2, "VillageMail$Letter", T_L, 11, ty_L, rfl, by decide, in_L, wa_at (i := 147) (by decide +kernel) rfl, fun K i r j => ⟨_, rfl, rfl, Nat.le_of_ble_eq_true rfl, fun v => rfl⟩, tk_L, nm_L, rfl, by decide +kernel⟩
theorem fs_X_200 : FsI "VillageMail" 200 19 5 .int false := ⟨by decide, 2, "VillageMail$Letter", T_L, 11, ty_L, rfl, by decide, in_L, wa_at (i := 148) (by decide +kernel) rfl, fun K i r j => ⟨_, rfl, rfl, Nat.le_of_ble_eq_true rfl, fun v => rfl⟩, tk_L, nm_L, rfl, by decide +kernel⟩
theorem fs_X_207 : FsI "VillageMail" 207 19 7 .int false := ⟨by decide, 2, "VillageMail$Letter", T_L, 11, ty_L, rfl, by decide, in_L, wa_at (i := 150) (by decide +kernel) rfl, fun K i r j => ⟨_, rfl, rfl, Nat.le_of_ble_eq_true rfl, fun v => rfl⟩, tk_L, nm_L, rfl, by decide +kernel⟩
theorem fs_X_22 : FsR "VillageMail" 22 0 4 6 (fun i => 0) := ⟨by decide, 7, "VillageMail", T_X, 16, rfl, by decide, in_X, wa_at (i := 215) (by decide +kernel) rfl, fun K i r j => ⟨_, rfl, rfl⟩⟩
theorem fs_X_227 : FsR "VillageMail" 227 7 4 11 (fun i => i) := ⟨by decide, 5, "VillageMail$Store", T_S, 9, rfl, by decide, in_S, wa_at (i := 72) (by decide +kernel) rfl, fun K i r j => ⟨_, rfl, rfl⟩⟩
theorem fs_X_230 : FsI "VillageMail" 230 19 9 .boolean false := ⟨by decide, 2, "VillageMail$Letter", T_L, 11, ty_L, rfl, by decide, in_L, wa_at (i := 152) (by decide +kernel) rfl, fun K i r j => ⟨_, rfl, rfl, Nat.le_of_ble_eq_true rfl, fun v => rfl⟩, tk_L, nm_L, rfl, by decide +kernel⟩
theorem fs_X_240 : FsI "VillageMail" 240 19 8 .boolean false := ⟨by decide, 2, "VillageMail$Letter", T_L, 11, ty_L, rfl, by decide, in_L, wa_at (i := 151) (by decide +kernel) rfl, fun K i r j => ⟨_, rfl, rfl, Nat.le_of_ble_eq_true rfl, fun v => rfl⟩, tk_L, nm_L, rfl, by decide +kernel⟩
theorem fs_X_247 : FsI "VillageMail" 247 7 7 .int false := ⟨by decide, 5, "VillageMail$Store", T_S, 9, ty_S, rfl, by decide, in_S, wa_at (i := 75) (by decide +kernel) rfl, fun K i r j => ⟨_, rfl, rfl, Nat.le_of_ble_eq_true rfl, fun v => rfl⟩, tk_S, nm_S, rfl, by decide +kernel⟩
theorem fs_X_253 : FsR "VillageMail" 253 7 3 10 (fun i => i) := ⟨by decide, 5, "VillageMail$Store", T_S, 9, rfl, by decide, in_S, wa_at (i := 70) (by decide +kernel) rfl, fun K i r j => ⟨_, rfl, rfl⟩⟩
theorem fs_X_272 : FsI "VillageMail" 272 0 14 .int false := ⟨by decide, 7, "VillageMail", T_X, 16, ty_X, rfl, by decide, in_X, wa_at (i := 225) (by decide +kernel) rfl, fun K i r j => ⟨_, rfl, rfl, Nat.le_of_ble_eq_true rfl, fun v => rfl⟩, tk_X, nm_X, rfl, by decide +kernel⟩
theorem fs_X_275 : FsI "VillageMail" 275 0 15 .int false := ⟨by decide, 7, "VillageMail", T_X, 16, ty_X, rfl, by decide, in_X, wa_at (i := 226) (by decide +kernel) rfl, fun K i r j => ⟨_, rfl, rfl, Nat.le_of_ble_eq_true rfl, fun v => rfl⟩, tk_X, nm_X, rfl, by decide +kernel⟩
theorem fs_X_300 : FsR "VillageMail" 300 7 2 9 (fun i => i) := ⟨by decide, 5, "VillageMail$Store", T_S, 9, rfl, by decide, in_S, wa_at (i := 68) (by decide +kernel) rfl, fun K i r j => ⟨_, rfl, rfl⟩⟩
theorem fs_X_31 : FsR "VillageMail" 31 0 5 12 (fun i => 0) := ⟨by decide, 7, "VillageMail", T_X, 16, rfl, by decide, in_X, wa_at (i := 216) (by decide +kernel) rfl, fun K i r j => ⟨_, rfl, rfl⟩⟩
theorem fs_X_312 : FsI "VillageMail" 312 26 1 .int false := ⟨by decide, 3, "VillageMail$Offers", T_O, 2, ty_O, rfl, by decide, in_O, wa_at (i := 205) (by decide +kernel) rfl, fun K i r j => ⟨_, rfl, rfl, Nat.le_of_ble_eq_true rfl, fun v => rfl⟩, tk_O, nm_O, rfl, by decide +kernel⟩
theorem fs_X_322 : FsR "VillageMail" 322 26 0 27 (fun i => i) := ⟨by decide, 3, "VillageMail$Offers", T_O, 2, rfl, by decide, in_O, wa_at (i := 203) (by decide +kernel) rfl, fun K i r j => ⟨_, rfl, rfl⟩⟩
theorem fs_X_329 : FsI "VillageMail" 329 7 8 .int false := ⟨by decide, 5, "VillageMail$Store", T_S, 9, ty_S, rfl, by decide, in_S, wa_at (i := 76) (by decide +kernel) rfl, fun K i r j => ⟨_, rfl, rfl, Nat.le_of_ble_eq_true rfl, fun v => rfl⟩, tk_S, nm_S, rfl, by decide +kernel⟩
theorem fs_X_332 : FsR "VillageMail" 332 7 1 8 (fun i => i) := ⟨by decide, 5, "VillageMail$Store", T_S, 9, rfl, by decide, in_S, wa_at (i := 66) (by decide +kernel) rfl, fun K i r j => ⟨_, rfl, rfl⟩⟩
theorem fs_X_38 : FsR "VillageMail" 38 0 6 18 (fun i => 0) := ⟨by decide, 7, "VillageMail", T_X, 16, rfl, by decide, in_X, wa_at (i := 217) (by decide +kernel) rfl, fun K i r j => ⟨_, rfl, rfl⟩⟩
theorem fs_X_43 : FsR "VillageMail" 43 0 8 21 (fun i => 0) := ⟨by decide, 7, "VillageMail", T_X, 16, rfl, by decide, in_X, wa_at (i := 219) (by decide +kernel) rfl, fun K i r j => ⟨_, rfl, rfl⟩⟩
theorem fs_X_50 : FsR "VillageMail" 50 0 10 22 (fun i => 0) := ⟨by decide, 7, "VillageMail", T_X, 16, rfl, by decide, in_X, wa_at (i := 221) (by decide +kernel) rfl, fun K i r j => ⟨_, rfl, rfl⟩⟩
theorem fs_X_54 : FsR "VillageMail" 54 0 11 22 (fun i => 1) := ⟨by decide, 7, "VillageMail", T_X, 16, rfl, by decide, in_X, wa_at (i := 222) (by decide +kernel) rfl, fun K i r j => ⟨_, rfl, rfl⟩⟩
theorem fs_X_60 : FsR "VillageMail" 60 0 12 26 (fun i => 0) := ⟨by decide, 7, "VillageMail", T_X, 16, rfl, by decide, in_X, wa_at (i := 223) (by decide +kernel) rfl, fun K i r j => ⟨_, rfl, rfl⟩⟩
theorem fs_X_64 : FsR "VillageMail" 64 0 13 26 (fun i => 1) := ⟨by decide, 7, "VillageMail", T_X, 16, rfl, by decide, in_X, wa_at (i := 224) (by decide +kernel) rfl, fun K i r j => ⟨_, rfl, rfl⟩⟩
theorem fs_X_86 : FsI "VillageMail" 86 1 3 .int false := ⟨by decide, 6, "VillageMail$Timetable", T_T, 4, ty_T, rfl, by decide, in_T, wa_at (i := 41) (by decide +kernel) rfl, fun K i r j => ⟨_, rfl, rfl, Nat.le_of_ble_eq_true rfl, fun v => rfl⟩, tk_T, nm_T, rfl, by decide +kernel⟩
end
section
theorem ac_X_255 : Ac "VillageMail" 255 := ⟨wa_at (i := 428) (by decide +kernel) rfl, wa_at (i := 430) (by decide +kernel) rfl, wa_at (i := 429) (by decide +kernel) rfl, wa_at (i := 16) (by decide +kernel) rfl⟩
theorem cs_C_22 : CsV "VillageMail$Boxes" 22 y_C_addressedBy b_C_addressedBy 2 (some .int) 1 13 := ⟨by decide, 1, T_C, 2, rfl, fun K i r j => ⟨_, rfl⟩, gd_v (wa_at (i := 453) (by decide +kernel) rfl) (wa_at (i := 454) (by decide +kernel) rfl) (wa_at (i := 455) (by decide +kernel) rfl) (wa_at (i := 5) (by decide +kernel) rfl) (wa_at (i := 456) (by decide +kernel) rfl), by decide +kernel, by decide +kernel, by decide +kernel⟩
theorem cs_C_26 : CsV "VillageMail$Boxes" 26 y_C_allFit b_C_allFit 4 (some .boolean) 2 13 := ⟨by decide, 1, T_C, 2, rfl, fun K i r j => ⟨_, rfl⟩, gd_v (wa_at (i := 457) (by decide +kernel) rfl) (wa_at (i := 458) (by decide +kernel) rfl) (wa_at (i := 459) (by decide +kernel) rfl) (wa_at (i := 5) (by decide +kernel) rfl) (wa_at (i := 460) (by decide +kernel) rfl), by decide +kernel, by decide +kernel, by decide +kernel⟩
theorem cs_C_30 : CsV "VillageMail$Boxes" 30 y_B_put b_B_put 3 none 2 16 := ⟨by decide, 0, T_B, 4, rfl, fun K i r j => ⟨_, rfl⟩, gd_v (wa_at (i := 465) (by decide +kernel) rfl) (wa_at (i := 466) (by decide +kernel) rfl) (wa_at (i := 467) (by decide +kernel) rfl) (wa_at (i := 6) (by decide +kernel) rfl) (wa_at (i := 468) (by decide +kernel) rfl), by decide +kernel, by decide +kernel, by decide +kernel⟩
theorem cs_C_34 : CsV "VillageMail$Boxes" 34 y_B_fits b_B_fits 2 (some .boolean) 1 16 := ⟨by decide, 0, T_B, 4, rfl, fun K i r j => ⟨_, rfl⟩, gd_v (wa_at (i := 461) (by decide +kernel) rfl) (wa_at (i := 462) (by decide +kernel) rfl) (wa_at (i := 463) (by decide +kernel) rfl) (wa_at (i := 6) (by decide +kernel) rfl) (wa_at (i := 464) (by decide +kernel) rfl), by decide +kernel, by decide +kernel, by decide +kernel⟩
theorem cs_M_108 : CsS "VillageMailModel" 108 y_M_upTo b_M_upTo 2 (some .boolean) 2 := ⟨gd_s (wa_at (i := 862) (by decide +kernel) rfl) (wa_at (i := 863) (by decide +kernel) rfl) (wa_at (i := 10) (by decide +kernel) rfl) (wa_at (i := 864) (by decide +kernel) rfl), by decide +kernel, by decide +kernel, by decide +kernel⟩
theorem cs_M_115 : CsS "VillageMailModel" 115 y_M_isBus b_M_isBus 1 (some .boolean) 1 := ⟨gd_s (wa_at (i := 856) (by decide +kernel) rfl) (wa_at (i := 857) (by decide +kernel) rfl) (wa_at (i := 10) (by decide +kernel) rfl) (wa_at (i := 858) (by decide +kernel) rfl), by decide +kernel, by decide +kernel, by decide +kernel⟩
theorem cs_M_119 : CsS "VillageMailModel" 119 y_M_isKiosk b_M_isKiosk 1 (some .boolean) 1 := ⟨gd_s (wa_at (i := 859) (by decide +kernel) rfl) (wa_at (i := 860) (by decide +kernel) rfl) (wa_at (i := 10) (by decide +kernel) rfl) (wa_at (i := 861) (by decide +kernel) rfl), by decide +kernel, by decide +kernel, by decide +kernel⟩
theorem cs_M_122 : CsV "VillageMailModel" 122 y_M_stopAt b_M_stopAt 4 (some .int) 2 30 := ⟨by decide, 8, T_M, 38, rfl, fun K i r j => ⟨_, rfl⟩, gd_v (wa_at (i := 865) (by decide +kernel) rfl) (wa_at (i := 867) (by decide +kernel) rfl) (wa_sel (n := 38) (List.mem_append_left _ (List.mem_of_getElem? (i := 12) rfl))) (wa_at (i := 10) (by decide +kernel) rfl) (wa_at (i := 868) (by decide +kernel) rfl), by decide +kernel, by decide +kernel, by decide +kernel⟩
theorem cs_M_126 : CsV "VillageMailModel" 126 y_M_copyStop b_M_copyStop 3 none 2 30 := ⟨by decide, 8, T_M, 38, rfl, fun K i r j => ⟨_, rfl⟩, gd_v (wa_at (i := 873) (by decide +kernel) rfl) (wa_at (i := 875) (by decide +kernel) rfl) (wa_sel (n := 38) (List.mem_append_left _ (List.mem_of_getElem? (i := 13) rfl))) (wa_at (i := 10) (by decide +kernel) rfl) (wa_at (i := 876) (by decide +kernel) rfl), by decide +kernel, by decide +kernel, by decide +kernel⟩
theorem cs_M_134 : CsV "VillageMailModel" 134 y_M_nextStop b_M_nextStop 6 (some .int) 2 30 := ⟨by decide, 8, T_M, 38, rfl, fun K i r j => ⟨_, rfl⟩, gd_v (wa_at (i := 891) (by decide +kernel) rfl) (wa_at (i := 893) (by decide +kernel) rfl) (wa_sel (n := 38) (List.mem_append_left _ (List.mem_of_getElem? (i := 15) rfl))) (wa_at (i := 10) (by decide +kernel) rfl) (wa_at (i := 894) (by decide +kernel) rfl), by decide +kernel, by decide +kernel, by decide +kernel⟩
theorem cs_M_137 : CsV "VillageMailModel" 137 y_M_passes b_M_passes 8 (some .boolean) 3 30 := ⟨by decide, 8, T_M, 38, rfl, fun K i r j => ⟨_, rfl⟩, gd_v (wa_at (i := 895) (by decide +kernel) rfl) (wa_at (i := 897) (by decide +kernel) rfl) (wa_sel (n := 38) (List.mem_append_right _ (List.mem_append_left _ (List.mem_of_getElem? (i := 0) rfl)))) (wa_at (i := 10) (by decide +kernel) rfl) (wa_at (i := 898) (by decide +kernel) rfl), by decide +kernel, by decide +kernel, by decide +kernel⟩
theorem cs_M_142 : CsV "VillageMailModel" 142 y_M_arrival b_M_arrival 6 (some .int) 4 30 := ⟨by decide, 8, T_M, 38, rfl, fun K i r j => ⟨_, rfl⟩, gd_v (wa_at (i := 886) (by decide +kernel) rfl) (wa_at (i := 888) (by decide +kernel) rfl) (wa_sel (n := 38) (List.mem_append_left _ (List.mem_of_getElem? (i := 14) rfl))) (wa_at (i := 10) (by decide +kernel) rfl) (wa_at (i := 889) (by decide +kernel) rfl), by decide +kernel, by decide +kernel, by decide +kernel⟩
theorem cs_M_146 : CsS "VillageMailModel" 146 y_M_at b_M_at 3 (some .int) 3 := ⟨gd_s (wa_at (i := 919) (by decide +kernel) rfl) (wa_at (i := 920) (by decide +kernel) rfl) (wa_at (i := 10) (by decide +kernel) rfl) (wa_at (i := 921) (by decide +kernel) rfl), by decide +kernel, by decide +kernel, by decide +kernel⟩
theorem cs_M_150 : CsV "VillageMailModel" 150 y_M_pieces b_M_pieces 2 (some .int) 1 30 := ⟨by decide, 8, T_M, 38, rfl, fun K i r j => ⟨_, rfl⟩, gd_v (wa_at (i := 915) (by decide +kernel) rfl) (wa_at (i := 917) (by decide +kernel) rfl) (wa_sel (n := 38) (List.mem_append_right _ (List.mem_append_left _ (List.mem_of_getElem? (i := 4) rfl)))) (wa_at (i := 10) (by decide +kernel) rfl) (wa_at (i := 918) (by decide +kernel) rfl), by decide +kernel, by decide +kernel, by decide +kernel⟩
theorem cs_M_154 : CsV "VillageMailModel" 154 y_M_complete b_M_complete 3 (some .boolean) 1 30 := ⟨by decide, 8, T_M, 38, rfl, fun K i r j => ⟨_, rfl⟩, gd_v (wa_at (i := 911) (by decide +kernel) rfl) (wa_at (i := 913) (by decide +kernel) rfl) (wa_sel (n := 38) (List.mem_append_right _ (List.mem_append_left _ (List.mem_of_getElem? (i := 3) rfl)))) (wa_at (i := 10) (by decide +kernel) rfl) (wa_at (i := 914) (by decide +kernel) rfl), by decide +kernel, by decide +kernel, by decide +kernel⟩
theorem cs_M_157 : CsS "VillageMailModel" 157 y_M_turned b_M_turned 1 (some .int) 1 := ⟨gd_s (wa_at (i := 922) (by decide +kernel) rfl) (wa_at (i := 923) (by decide +kernel) rfl) (wa_at (i := 10) (by decide +kernel) rfl) (wa_at (i := 924) (by decide +kernel) rfl), by decide +kernel, by decide +kernel, by decide +kernel⟩
theorem cs_M_160 : CsV "VillageMailModel" 160 y_M_byteOf b_M_byteOf 4 (some .int) 3 30 := ⟨by decide, 8, T_M, 38, rfl, fun K i r j => ⟨_, rfl⟩, gd_v (wa_at (i := 925) (by decide +kernel) rfl) (wa_at (i := 927) (by decide +kernel) rfl) (wa_sel (n := 38) (List.mem_append_right _ (List.mem_append_left _ (List.mem_of_getElem? (i := 5) rfl)))) (wa_at (i := 10) (by decide +kernel) rfl) (wa_at (i := 928) (by decide +kernel) rfl), by decide +kernel, by decide +kernel, by decide +kernel⟩
theorem cs_M_163 : CsV "VillageMailModel" 163 y_M_learn b_M_learn 5 none 3 30 := ⟨by decide, 8, T_M, 38, rfl, fun K i r j => ⟨_, rfl⟩, gd_v (wa_at (i := 929) (by decide +kernel) rfl) (wa_at (i := 931) (by decide +kernel) rfl) (wa_sel (n := 38) (List.mem_append_right _ (List.mem_append_left _ (List.mem_of_getElem? (i := 6) rfl)))) (wa_at (i := 10) (by decide +kernel) rfl) (wa_at (i := 932) (by decide +kernel) rfl), by decide +kernel, by decide +kernel, by decide +kernel⟩
theorem cs_M_167 : CsV "VillageMailModel" 167 y_M_isFor b_M_isFor 3 (some .boolean) 2 30 := ⟨by decide, 8, T_M, 38, rfl, fun K i r j => ⟨_, rfl⟩, gd_v (wa_at (i := 933) (by decide +kernel) rfl) (wa_at (i := 935) (by decide +kernel) rfl) (wa_sel (n := 38) (List.mem_append_right _ (List.mem_append_left _ (List.mem_of_getElem? (i := 7) rfl)))) (wa_at (i := 10) (by decide +kernel) rfl) (wa_at (i := 936) (by decide +kernel) rfl), by decide +kernel, by decide +kernel, by decide +kernel⟩
theorem cs_M_170 : CsV "VillageMailModel" 170 y_M_bytesIn b_M_bytesIn 4 (some .int) 1 30 := ⟨by decide, 8, T_M, 38, rfl, fun K i r j => ⟨_, rfl⟩, gd_v (wa_at (i := 937) (by decide +kernel) rfl) (wa_at (i := 939) (by decide +kernel) rfl) (wa_sel (n := 38) (List.mem_append_right _ (List.mem_append_left _ (List.mem_of_getElem? (i := 8) rfl)))) (wa_at (i := 10) (by decide +kernel) rfl) (wa_at (i := 940) (by decide +kernel) rfl), by decide +kernel, by decide +kernel, by decide +kernel⟩
theorem cs_M_173 : CsV "VillageMailModel" 173 y_M_lookAt b_M_lookAt 7 none 1 30 := ⟨by decide, 8, T_M, 38, rfl, fun K i r j => ⟨_, rfl⟩, gd_v (wa_at (i := 907) (by decide +kernel) rfl) (wa_at (i := 909) (by decide +kernel) rfl) (wa_sel (n := 38) (List.mem_append_right _ (List.mem_append_left _ (List.mem_of_getElem? (i := 2) rfl)))) (wa_at (i := 10) (by decide +kernel) rfl) (wa_at (i := 910) (by decide +kernel) rfl), by decide +kernel, by decide +kernel, by decide +kernel⟩
theorem cs_M_177 : CsV "VillageMailModel" 177 y_M_lookAll b_M_lookAll 3 none 1 30 := ⟨by decide, 8, T_M, 38, rfl, fun K i r j => ⟨_, rfl⟩, gd_v (wa_at (i := 903) (by decide +kernel) rfl) (wa_at (i := 905) (by decide +kernel) rfl) (wa_sel (n := 38) (List.mem_append_right _ (List.mem_append_left _ (List.mem_of_getElem? (i := 1) rfl)))) (wa_at (i := 10) (by decide +kernel) rfl) (wa_at (i := 906) (by decide +kernel) rfl), by decide +kernel, by decide +kernel, by decide +kernel⟩
theorem cs_M_183 : CsV "VillageMailModel" 183 y_M_room b_M_room 4 (some .int) 1 30 := ⟨by decide, 8, T_M, 38, rfl, fun K i r j => ⟨_, rfl⟩, gd_v (wa_at (i := 953) (by decide +kernel) rfl) (wa_at (i := 955) (by decide +kernel) rfl) (wa_sel (n := 38) (List.mem_append_right _ (List.mem_append_left _ (List.mem_of_getElem? (i := 9) rfl)))) (wa_at (i := 10) (by decide +kernel) rfl) (wa_at (i := 956) (by decide +kernel) rfl), by decide +kernel, by decide +kernel, by decide +kernel⟩
theorem cs_M_189 : CsV "VillageMailModel" 189 y_M_expire b_M_expire 5 none 1 30 := ⟨by decide, 8, T_M, 38, rfl, fun K i r j => ⟨_, rfl⟩, gd_v (wa_at (i := 961) (by decide +kernel) rfl) (wa_at (i := 963) (by decide +kernel) rfl) (wa_sel (n := 38) (List.mem_append_right _ (List.mem_append_left _ (List.mem_of_getElem? (i := 10) rfl)))) (wa_at (i := 10) (by decide +kernel) rfl) (wa_at (i := 964) (by decide +kernel) rfl), by decide +kernel, by decide +kernel, by decide +kernel⟩
theorem cs_M_192 : CsV "VillageMailModel" 192 y_M_hear b_M_hear 3 none 2 30 := ⟨by decide, 8, T_M, 38, rfl, fun K i r j => ⟨_, rfl⟩, gd_v (wa_at (i := 977) (by decide +kernel) rfl) (wa_at (i := 979) (by decide +kernel) rfl) (wa_sel (n := 38) (List.mem_append_right _ (List.mem_append_left _ (List.mem_of_getElem? (i := 13) rfl)))) (wa_at (i := 10) (by decide +kernel) rfl) (wa_at (i := 980) (by decide +kernel) rfl), by decide +kernel, by decide +kernel, by decide +kernel⟩
theorem cs_M_195 : CsS "VillageMailModel" 195 y_M_earlier b_M_earlier 2 (some .boolean) 2 := ⟨gd_s (wa_at (i := 985) (by decide +kernel) rfl) (wa_at (i := 986) (by decide +kernel) rfl) (wa_at (i := 10) (by decide +kernel) rfl) (wa_at (i := 987) (by decide +kernel) rfl), by decide +kernel, by decide +kernel, by decide +kernel⟩
theorem cs_M_204 : CsV "VillageMailModel" 204 y_M_move b_M_move 8 (some .boolean) 4 30 := ⟨by decide, 8, T_M, 38, rfl, fun K i r j => ⟨_, rfl⟩, gd_v (wa_at (i := 992) (by decide +kernel) rfl) (wa_at (i := 994) (by decide +kernel) rfl) (wa_sel (n := 38) (List.mem_append_right _ (List.mem_append_right _ (List.mem_of_getElem? (i := 0) rfl)))) (wa_at (i := 10) (by decide +kernel) rfl) (wa_at (i := 995) (by decide +kernel) rfl), by decide +kernel, by decide +kernel, by decide +kernel⟩
theorem cs_M_208 : CsV "VillageMailModel" 208 y_M_exchangeNews b_M_exchangeNews 8 none 2 30 := ⟨by decide, 8, T_M, 38, rfl, fun K i r j => ⟨_, rfl⟩, gd_v (wa_at (i := 973) (by decide +kernel) rfl) (wa_at (i := 975) (by decide +kernel) rfl) (wa_sel (n := 38) (List.mem_append_right _ (List.mem_append_left _ (List.mem_of_getElem? (i := 12) rfl)))) (wa_at (i := 10) (by decide +kernel) rfl) (wa_at (i := 976) (by decide +kernel) rfl), by decide +kernel, by decide +kernel, by decide +kernel⟩
theorem cs_M_211 : CsV "VillageMailModel" 211 y_M_settle b_M_settle 9 none 2 30 := ⟨by decide, 8, T_M, 38, rfl, fun K i r j => ⟨_, rfl⟩, gd_v (wa_at (i := 981) (by decide +kernel) rfl) (wa_at (i := 983) (by decide +kernel) rfl) (wa_sel (n := 38) (List.mem_append_right _ (List.mem_append_left _ (List.mem_of_getElem? (i := 14) rfl)))) (wa_at (i := 10) (by decide +kernel) rfl) (wa_at (i := 984) (by decide +kernel) rfl), by decide +kernel, by decide +kernel, by decide +kernel⟩
theorem cs_M_214 : CsV "VillageMailModel" 214 y_M_give b_M_give 9 (some .int) 4 30 := ⟨by decide, 8, T_M, 38, rfl, fun K i r j => ⟨_, rfl⟩, gd_v (wa_at (i := 988) (by decide +kernel) rfl) (wa_at (i := 990) (by decide +kernel) rfl) (wa_sel (n := 38) (List.mem_append_right _ (List.mem_append_left _ (List.mem_of_getElem? (i := 15) rfl)))) (wa_at (i := 10) (by decide +kernel) rfl) (wa_at (i := 991) (by decide +kernel) rfl), by decide +kernel, by decide +kernel, by decide +kernel⟩
theorem cs_M_217 : CsV "VillageMailModel" 217 y_M_meeting b_M_meeting 5 (some .int) 3 30 := ⟨by decide, 8, T_M, 38, rfl, fun K i r j => ⟨_, rfl⟩, gd_v (wa_at (i := 969) (by decide +kernel) rfl) (wa_at (i := 971) (by decide +kernel) rfl) (wa_sel (n := 38) (List.mem_append_right _ (List.mem_append_left _ (List.mem_of_getElem? (i := 11) rfl)))) (wa_at (i := 10) (by decide +kernel) rfl) (wa_at (i := 972) (by decide +kernel) rfl), by decide +kernel, by decide +kernel, by decide +kernel⟩
theorem cs_M_220 : CsV "VillageMailModel" 220 y_M_isLetter b_M_isLetter 2 (some .boolean) 1 30 := ⟨by decide, 8, T_M, 38, rfl, fun K i r j => ⟨_, rfl⟩, gd_v (wa_at (i := 1008) (by decide +kernel) rfl) (wa_at (i := 1010) (by decide +kernel) rfl) (wa_sel (n := 38) (List.mem_append_right _ (List.mem_append_right _ (List.mem_of_getElem? (i := 1) rfl)))) (wa_at (i := 10) (by decide +kernel) rfl) (wa_at (i := 1011) (by decide +kernel) rfl), by decide +kernel, by decide +kernel, by decide +kernel⟩
theorem cs_M_223 : CsS "VillageMailModel" 223 y_M_isBox b_M_isBox 2 (some .boolean) 2 := ⟨gd_s (wa_at (i := 1016) (by decide +kernel) rfl) (wa_at (i := 1017) (by decide +kernel) rfl) (wa_at (i := 10) (by decide +kernel) rfl) (wa_at (i := 1018) (by decide +kernel) rfl), by decide +kernel, by decide +kernel, by decide +kernel⟩
theorem cs_R_22 : CsV "VillageMail$Ride" 22 y_R_clear b_R_clear 2 none 0 22 := ⟨by decide, 4, T_R, 3, rfl, fun K i r j => ⟨_, rfl⟩, gd_v (wa_at (i := 499) (by decide +kernel) rfl) (wa_at (i := 500) (by decide +kernel) rfl) (wa_at (i := 501) (by decide +kernel) rfl) (wa_at (i := 8) (by decide +kernel) rfl) (wa_at (i := 502) (by decide +kernel) rfl), by decide +kernel, by decide +kernel, by decide +kernel⟩
theorem cs_R_25 : CsV "VillageMail$Ride" 25 y_R_goBy b_R_goBy 8 none 3 22 := ⟨by decide, 4, T_R, 3, rfl, fun K i r j => ⟨_, rfl⟩, gd_v (wa_at (i := 505) (by decide +kernel) rfl) (wa_at (i := 506) (by decide +kernel) rfl) (wa_at (i := 507) (by decide +kernel) rfl) (wa_at (i := 8) (by decide +kernel) rfl) (wa_at (i := 508) (by decide +kernel) rfl), by decide +kernel, by decide +kernel, by decide +kernel⟩
theorem cs_R_30 : CsS "VillageMail$Ride" 30 y_A_fill b_A_fill 4 none 2 := ⟨gd_s (wa_at (i := 504) (by decide +kernel) rfl) (wa_at (i := 62) (by decide +kernel) rfl) (wa_at (i := 4) (by decide +kernel) rfl) (wa_at (i := 63) (by decide +kernel) rfl), by decide +kernel, by decide +kernel, by decide +kernel⟩
theorem cs_R_36 : CsS "VillageMail$Ride" 36 y_J_floorMod b_J_floorMod 3 (some .int) 2 := ⟨gd_s (wa_at (i := 509) (by decide +kernel) rfl) (wa_at (i := 510) (by decide +kernel) rfl) (wa_at (i := 17) (by decide +kernel) rfl) (wa_at (i := 511) (by decide +kernel) rfl), by decide +kernel, by decide +kernel, by decide +kernel⟩
theorem cs_R_57 : CsV "VillageMail$Ride" 57 y_R_seeStop b_R_seeStop 4 none 3 22 := ⟨by decide, 4, T_R, 3, rfl, fun K i r j => ⟨_, rfl⟩, gd_v (wa_at (i := 512) (by decide +kernel) rfl) (wa_at (i := 513) (by decide +kernel) rfl) (wa_at (i := 514) (by decide +kernel) rfl) (wa_at (i := 8) (by decide +kernel) rfl) (wa_at (i := 515) (by decide +kernel) rfl), by decide +kernel, by decide +kernel, by decide +kernel⟩
theorem cs_S_38 : CsV "VillageMail$Store" 38 y_S_has b_S_has 2 (some .boolean) 1 7 := ⟨by decide, 5, T_S, 9, rfl, fun K i r j => ⟨_, rfl⟩, gd_v (wa_at (i := 421) (by decide +kernel) rfl) (wa_at (i := 422) (by decide +kernel) rfl) (wa_at (i := 423) (by decide +kernel) rfl) (wa_at (i := 3) (by decide +kernel) rfl) (wa_at (i := 424) (by decide +kernel) rfl), by decide +kernel, by decide +kernel, by decide +kernel⟩
theorem cs_S_42 : CsV "VillageMail$Store" 42 y_S_free b_S_free 2 none 1 7 := ⟨by decide, 5, T_S, 9, rfl, fun K i r j => ⟨_, rfl⟩, gd_v (wa_at (i := 445) (by decide +kernel) rfl) (wa_at (i := 446) (by decide +kernel) rfl) (wa_at (i := 447) (by decide +kernel) rfl) (wa_at (i := 3) (by decide +kernel) rfl) (wa_at (i := 448) (by decide +kernel) rfl), by decide +kernel, by decide +kernel, by decide +kernel⟩
theorem cs_S_46 : CsV "VillageMail$Store" 46 y_S_freeAllOf b_S_freeAllOf 3 none 1 7 := ⟨by decide, 5, T_S, 9, rfl, fun K i r j => ⟨_, rfl⟩, gd_v (wa_at (i := 441) (by decide +kernel) rfl) (wa_at (i := 442) (by decide +kernel) rfl) (wa_at (i := 443) (by decide +kernel) rfl) (wa_at (i := 3) (by decide +kernel) rfl) (wa_at (i := 444) (by decide +kernel) rfl), by decide +kernel, by decide +kernel, by decide +kernel⟩
theorem cs_T_25 : CsV "VillageMail$Timetable" 25 y_T_set b_T_set 5 none 4 1 := ⟨by decide, 6, T_T, 4, rfl, fun K i r j => ⟨_, rfl⟩, gd_v (wa_at (i := 272) (by decide +kernel) rfl) (wa_at (i := 273) (by decide +kernel) rfl) (wa_at (i := 274) (by decide +kernel) rfl) (wa_at (i := 2) (by decide +kernel) rfl) (wa_at (i := 275) (by decide +kernel) rfl), by decide +kernel, by decide +kernel, by decide +kernel⟩
theorem cs_X_103 : CsV "VillageMail" 103 y_T_become b_T_become 3 none 1 1 := ⟨by decide, 6, T_T, 4, rfl, fun K i r j => ⟨_, rfl⟩, gd_v (wa_at (i := 395) (by decide +kernel) rfl) (wa_at (i := 396) (by decide +kernel) rfl) (wa_at (i := 397) (by decide +kernel) rfl) (wa_at (i := 2) (by decide +kernel) rfl) (wa_at (i := 398) (by decide +kernel) rfl), by decide +kernel, by decide +kernel, by decide +kernel⟩
theorem cs_X_111 : CsV "VillageMail" 111 y_X_arrival b_X_arrival 6 (some .int) 4 0 := ⟨by decide, 7, T_X, 16, rfl, fun K i r j => ⟨_, rfl⟩, gd_v (wa_at (i := 491) (by decide +kernel) rfl) (wa_at (i := 493) (by decide +kernel) rfl) (wa_sel (n := 16) (List.mem_append_left _ (List.mem_of_getElem? (i := 3) rfl))) (wa_at (i := 1) (by decide +kernel) rfl) (wa_at (i := 494) (by decide +kernel) rfl), by decide +kernel, by decide +kernel, by decide +kernel⟩
theorem cs_X_115 : CsV "VillageMail" 115 y_R_startAtKiosk b_R_startAtKiosk 4 none 3 22 := ⟨by decide, 4, T_R, 3, rfl, fun K i r j => ⟨_, rfl⟩, gd_v (wa_at (i := 495) (by decide +kernel) rfl) (wa_at (i := 496) (by decide +kernel) rfl) (wa_at (i := 497) (by decide +kernel) rfl) (wa_at (i := 8) (by decide +kernel) rfl) (wa_at (i := 498) (by decide +kernel) rfl), by decide +kernel, by decide +kernel, by decide +kernel⟩
theorem cs_X_124 : CsS "VillageMail" 124 y_X_isBox b_X_isBox 2 (some .boolean) 2 := ⟨gd_s (wa_at (i := 406) (by decide +kernel) rfl) (wa_at (i := 407) (by decide +kernel) rfl) (wa_at (i := 1) (by decide +kernel) rfl) (wa_at (i := 408) (by decide +kernel) rfl), by decide +kernel, by decide +kernel, by decide +kernel⟩
theorem cs_X_136 : CsV "VillageMail" 136 y_X_lookAtAllOf b_X_lookAtAllOf 3 none 1 0 := ⟨by decide, 7, T_X, 16, rfl, fun K i r j => ⟨_, rfl⟩, gd_v (wa_at (i := 409) (by decide +kernel) rfl) (wa_at (i := 411) (by decide +kernel) rfl) (wa_sel (n := 16) (List.mem_append_left _ (List.mem_of_getElem? (i := 1) rfl))) (wa_at (i := 1) (by decide +kernel) rfl) (wa_at (i := 412) (by decide +kernel) rfl), by decide +kernel, by decide +kernel, by decide +kernel⟩
theorem cs_X_139 : CsV "VillageMail" 139 y_C_toggle b_C_toggle 3 (some .boolean) 2 13 := ⟨by decide, 1, T_C, 2, rfl, fun K i r j => ⟨_, rfl⟩, gd_v (wa_at (i := 476) (by decide +kernel) rfl) (wa_at (i := 477) (by decide +kernel) rfl) (wa_at (i := 478) (by decide +kernel) rfl) (wa_at (i := 5) (by decide +kernel) rfl) (wa_at (i := 479) (by decide +kernel) rfl), by decide +kernel, by decide +kernel, by decide +kernel⟩
theorem cs_X_146 : CsS "VillageMail" 146 y_X_demandIndex b_X_demandIndex 2 none 2 := ⟨gd_s (wa_at (i := 662) (by decide +kernel) rfl) (wa_at (i := 663) (by decide +kernel) rfl) (wa_at (i := 1) (by decide +kernel) rfl) (wa_at (i := 664) (by decide +kernel) rfl), by decide +kernel, by decide +kernel, by decide +kernel⟩
theorem cs_X_158 : CsS "VillageMail" 158 y_X_byteAt b_X_byteAt 3 (some .int) 2 := ⟨gd_s (wa_at (i := 434) (by decide +kernel) rfl) (wa_at (i := 435) (by decide +kernel) rfl) (wa_at (i := 1) (by decide +kernel) rfl) (wa_at (i := 436) (by decide +kernel) rfl), by decide +kernel, by decide +kernel, by decide +kernel⟩
theorem cs_X_162 : CsV "VillageMail" 162 y_B_takeOut b_B_takeOut 4 none 2 16 := ⟨by decide, 0, T_B, 4, rfl, fun K i r j => ⟨_, rfl⟩, gd_v (wa_at (i := 687) (by decide +kernel) rfl) (wa_at (i := 688) (by decide +kernel) rfl) (wa_at (i := 689) (by decide +kernel) rfl) (wa_at (i := 6) (by decide +kernel) rfl) (wa_at (i := 690) (by decide +kernel) rfl), by decide +kernel, by decide +kernel, by decide +kernel⟩
theorem cs_X_167 : CsS "VillageMail" 167 y_X_shifted b_X_shifted 2 (some .long) 2 := ⟨gd_s (wa_at (i := 280) (by decide +kernel) rfl) (wa_at (i := 281) (by decide +kernel) rfl) (wa_at (i := 1) (by decide +kernel) rfl) (wa_at (i := 282) (by decide +kernel) rfl), by decide +kernel, by decide +kernel, by decide +kernel⟩
theorem cs_X_174 : CsV "VillageMail" 174 y_S_room b_S_room 1 (some .int) 0 7 := ⟨by decide, 5, T_S, 9, rfl, fun K i r j => ⟨_, rfl⟩, gd_v (wa_at (i := 487) (by decide +kernel) rfl) (wa_at (i := 488) (by decide +kernel) rfl) (wa_at (i := 489) (by decide +kernel) rfl) (wa_at (i := 3) (by decide +kernel) rfl) (wa_at (i := 490) (by decide +kernel) rfl), by decide +kernel, by decide +kernel, by decide +kernel⟩
theorem cs_X_178 : CsS "VillageMail" 178 y_X_piecesIn b_X_piecesIn 1 (some .int) 1 := ⟨gd_s (wa_at (i := 425) (by decide +kernel) rfl) (wa_at (i := 426) (by decide +kernel) rfl) (wa_at (i := 1) (by decide +kernel) rfl) (wa_at (i := 427) (by decide +kernel) rfl), by decide +kernel, by decide +kernel, by decide +kernel⟩
theorem cs_X_203 : CsS "VillageMail" 203 y_X_sumOf b_X_sumOf 4 (some .int) 2 := ⟨gd_s (wa_at (i := 431) (by decide +kernel) rfl) (wa_at (i := 432) (by decide +kernel) rfl) (wa_at (i := 1) (by decide +kernel) rfl) (wa_at (i := 433) (by decide +kernel) rfl), by decide +kernel, by decide +kernel, by decide +kernel⟩
theorem cs_X_210 : CsV "VillageMail" 210 y_X_handOverText b_X_handOverText 5 none 2 0 := ⟨by decide, 7, T_X, 16, rfl, fun K i r j => ⟨_, rfl⟩, gd_v (wa_at (i := 517) (by decide +kernel) rfl) (wa_at (i := 519) (by decide +kernel) rfl) (wa_sel (n := 16) (List.mem_append_left _ (List.mem_of_getElem? (i := 4) rfl))) (wa_at (i := 1) (by decide +kernel) rfl) (wa_at (i := 520) (by decide +kernel) rfl), by decide +kernel, by decide +kernel, by decide +kernel⟩
theorem cs_X_214 : CsV "VillageMail" 214 y_X_lookAt b_X_lookAt 4 none 1 0 := ⟨by decide, 7, T_X, 16, rfl, fun K i r j => ⟨_, rfl⟩, gd_v (wa_at (i := 413) (by decide +kernel) rfl) (wa_at (i := 415) (by decide +kernel) rfl) (wa_sel (n := 16) (List.mem_append_left _ (List.mem_of_getElem? (i := 2) rfl))) (wa_at (i := 1) (by decide +kernel) rfl) (wa_at (i := 416) (by decide +kernel) rfl), by decide +kernel, by decide +kernel, by decide +kernel⟩
theorem cs_X_217 : CsV "VillageMail" 217 y_S_take b_S_take 5 none 3 7 := ⟨by decide, 5, T_S, 9, rfl, fun K i r j => ⟨_, rfl⟩, gd_v (wa_at (i := 521) (by decide +kernel) rfl) (wa_at (i := 522) (by decide +kernel) rfl) (wa_at (i := 523) (by decide +kernel) rfl) (wa_at (i := 3) (by decide +kernel) rfl) (wa_at (i := 524) (by decide +kernel) rfl), by decide +kernel, by decide +kernel, by decide +kernel⟩
theorem cs_X_221 : CsS "VillageMail" 221 y_A_fillJ b_A_fillJ 5 none 2 := ⟨gd_s (wa_at (i := 525) (by decide +kernel) rfl) (wa_at (i := 526) (by decide +kernel) rfl) (wa_at (i := 4) (by decide +kernel) rfl) (wa_at (i := 527) (by decide +kernel) rfl), by decide +kernel, by decide +kernel, by decide +kernel⟩
theorem cs_X_234 : CsV "VillageMail" 234 y_S_countOf b_S_countOf 4 (some .int) 1 7 := ⟨by decide, 5, T_S, 9, rfl, fun K i r j => ⟨_, rfl⟩, gd_v (wa_at (i := 417) (by decide +kernel) rfl) (wa_at (i := 418) (by decide +kernel) rfl) (wa_at (i := 419) (by decide +kernel) rfl) (wa_at (i := 3) (by decide +kernel) rfl) (wa_at (i := 420) (by decide +kernel) rfl), by decide +kernel, by decide +kernel, by decide +kernel⟩
theorem cs_X_237 : CsV "VillageMail" 237 y_X_expireWhatIsDue b_X_expireWhatIsDue 3 none 0 0 := ⟨by decide, 7, T_X, 16, rfl, fun K i r j => ⟨_, rfl⟩, gd_v (wa_at (i := 535) (by decide +kernel) rfl) (wa_at (i := 537) (by decide +kernel) rfl) (wa_sel (n := 16) (List.mem_append_left _ (List.mem_of_getElem? (i := 5) rfl))) (wa_at (i := 1) (by decide +kernel) rfl) (wa_at (i := 538) (by decide +kernel) rfl), by decide +kernel, by decide +kernel, by decide +kernel⟩
theorem cs_X_243 : CsV "VillageMail" 243 y_X_dropCopies b_X_dropCopies 4 none 2 0 := ⟨by decide, 7, T_X, 16, rfl, fun K i r j => ⟨_, rfl⟩, gd_v (wa_at (i := 539) (by decide +kernel) rfl) (wa_at (i := 541) (by decide +kernel) rfl) (wa_sel (n := 16) (List.mem_append_left _ (List.mem_of_getElem? (i := 6) rfl))) (wa_at (i := 1) (by decide +kernel) rfl) (wa_at (i := 542) (by decide +kernel) rfl), by decide +kernel, by decide +kernel, by decide +kernel⟩
theorem cs_X_250 : CsV "VillageMail" 250 y_S_freeAllOf b_S_freeAllOf 3 none 1 7 := ⟨by decide, 5, T_S, 9, rfl, fun K i r j => ⟨_, rfl⟩, gd_v (wa_at (i := 543) (by decide +kernel) rfl) (wa_at (i := 442) (by decide +kernel) rfl) (wa_at (i := 443) (by decide +kernel) rfl) (wa_at (i := 3) (by decide +kernel) rfl) (wa_at (i := 444) (by decide +kernel) rfl), by decide +kernel, by decide +kernel, by decide +kernel⟩
theorem cs_X_261 : CsV "VillageMail" 261 y_S_learnOf b_S_learnOf 3 none 2 7 := ⟨by decide, 5, T_S, 9, rfl, fun K i r j => ⟨_, rfl⟩, gd_v (wa_at (i := 437) (by decide +kernel) rfl) (wa_at (i := 438) (by decide +kernel) rfl) (wa_at (i := 439) (by decide +kernel) rfl) (wa_at (i := 3) (by decide +kernel) rfl) (wa_at (i := 440) (by decide +kernel) rfl), by decide +kernel, by decide +kernel, by decide +kernel⟩
theorem cs_X_264 : CsV "VillageMail" 264 y_C_putInto b_C_putInto 6 (some .boolean) 3 13 := ⟨by decide, 1, T_C, 2, rfl, fun K i r j => ⟨_, rfl⟩, gd_v (wa_at (i := 449) (by decide +kernel) rfl) (wa_at (i := 450) (by decide +kernel) rfl) (wa_at (i := 451) (by decide +kernel) rfl) (wa_at (i := 5) (by decide +kernel) rfl) (wa_at (i := 452) (by decide +kernel) rfl), by decide +kernel, by decide +kernel, by decide +kernel⟩
theorem cs_X_268 : CsV "VillageMail" 268 y_X_hold b_X_hold 5 (some .int) 3 0 := ⟨by decide, 7, T_X, 16, rfl, fun K i r j => ⟨_, rfl⟩, gd_v (wa_at (i := 551) (by decide +kernel) rfl) (wa_at (i := 553) (by decide +kernel) rfl) (wa_sel (n := 16) (List.mem_append_left _ (List.mem_of_getElem? (i := 7) rfl))) (wa_at (i := 1) (by decide +kernel) rfl) (wa_at (i := 554) (by decide +kernel) rfl), by decide +kernel, by decide +kernel, by decide +kernel⟩
theorem cs_X_278 : CsV "VillageMail" 278 y_S_unlearn b_S_unlearn 2 none 1 7 := ⟨by decide, 5, T_S, 9, rfl, fun K i r j => ⟨_, rfl⟩, gd_v (wa_at (i := 603) (by decide +kernel) rfl) (wa_at (i := 604) (by decide +kernel) rfl) (wa_at (i := 605) (by decide +kernel) rfl) (wa_at (i := 3) (by decide +kernel) rfl) (wa_at (i := 606) (by decide +kernel) rfl), by decide +kernel, by decide +kernel, by decide +kernel⟩
theorem cs_X_281 : CsS "VillageMail" 281 y_X_shareTimetable b_X_shareTimetable 3 none 2 := ⟨gd_s (wa_at (i := 555) (by decide +kernel) rfl) (wa_at (i := 556) (by decide +kernel) rfl) (wa_at (i := 1) (by decide +kernel) rfl) (wa_at (i := 557) (by decide +kernel) rfl), by decide +kernel, by decide +kernel, by decide +kernel⟩
theorem cs_X_285 : CsV "VillageMail" 285 y_X_shareNews b_X_shareNews 5 none 2 0 := ⟨by decide, 7, T_X, 16, rfl, fun K i r j => ⟨_, rfl⟩, gd_v (wa_at (i := 561) (by decide +kernel) rfl) (wa_at (i := 563) (by decide +kernel) rfl) (wa_sel (n := 16) (List.mem_append_left _ (List.mem_of_getElem? (i := 8) rfl))) (wa_at (i := 1) (by decide +kernel) rfl) (wa_at (i := 564) (by decide +kernel) rfl), by decide +kernel, by decide +kernel, by decide +kernel⟩
theorem cs_X_288 : CsV "VillageMail" 288 y_X_settleOffers b_X_settleOffers 6 none 2 0 := ⟨by decide, 7, T_X, 16, rfl, fun K i r j => ⟨_, rfl⟩, gd_v (wa_at (i := 572) (by decide +kernel) rfl) (wa_at (i := 574) (by decide +kernel) rfl) (wa_sel (n := 16) (List.mem_append_left _ (List.mem_of_getElem? (i := 9) rfl))) (wa_at (i := 1) (by decide +kernel) rfl) (wa_at (i := 575) (by decide +kernel) rfl), by decide +kernel, by decide +kernel, by decide +kernel⟩
theorem cs_X_291 : CsV "VillageMail" 291 y_X_moveOffered b_X_moveOffered 8 (some .int) 4 0 := ⟨by decide, 7, T_X, 16, rfl, fun K i r j => ⟨_, rfl⟩, gd_v (wa_at (i := 589) (by decide +kernel) rfl) (wa_at (i := 591) (by decide +kernel) rfl) (wa_sel (n := 16) (List.mem_append_left _ (List.mem_of_getElem? (i := 11) rfl))) (wa_at (i := 1) (by decide +kernel) rfl) (wa_at (i := 592) (by decide +kernel) rfl), by decide +kernel, by decide +kernel, by decide +kernel⟩
theorem cs_X_303 : CsV "VillageMail" 303 y_S_learnHops b_S_learnHops 3 none 2 7 := ⟨by decide, 5, T_S, 9, rfl, fun K i r j => ⟨_, rfl⟩, gd_v (wa_at (i := 565) (by decide +kernel) rfl) (wa_at (i := 566) (by decide +kernel) rfl) (wa_at (i := 567) (by decide +kernel) rfl) (wa_at (i := 3) (by decide +kernel) rfl) (wa_at (i := 568) (by decide +kernel) rfl), by decide +kernel, by decide +kernel, by decide +kernel⟩
theorem cs_X_306 : CsS "VillageMail" 306 y_X_firmer b_X_firmer 2 (some .int) 2 := ⟨gd_s (wa_at (i := 569) (by decide +kernel) rfl) (wa_at (i := 570) (by decide +kernel) rfl) (wa_at (i := 1) (by decide +kernel) rfl) (wa_at (i := 571) (by decide +kernel) rfl), by decide +kernel, by decide +kernel, by decide +kernel⟩
theorem cs_X_309 : CsV "VillageMail" 309 y_R_startOnBus b_R_startOnBus 4 none 3 22 := ⟨by decide, 4, T_R, 3, rfl, fun K i r j => ⟨_, rfl⟩, gd_v (wa_at (i := 576) (by decide +kernel) rfl) (wa_at (i := 577) (by decide +kernel) rfl) (wa_at (i := 578) (by decide +kernel) rfl) (wa_at (i := 8) (by decide +kernel) rfl) (wa_at (i := 579) (by decide +kernel) rfl), by decide +kernel, by decide +kernel, by decide +kernel⟩
theorem cs_X_313 : CsV "VillageMail" 313 y_X_offerPiecesOf b_X_offerPiecesOf 10 none 3 0 := ⟨by decide, 7, T_X, 16, rfl, fun K i r j => ⟨_, rfl⟩, gd_v (wa_at (i := 580) (by decide +kernel) rfl) (wa_at (i := 582) (by decide +kernel) rfl) (wa_sel (n := 16) (List.mem_append_left _ (List.mem_of_getElem? (i := 10) rfl))) (wa_at (i := 1) (by decide +kernel) rfl) (wa_at (i := 583) (by decide +kernel) rfl), by decide +kernel, by decide +kernel, by decide +kernel⟩
theorem cs_X_316 : CsV "VillageMail" 316 y_S_has b_S_has 2 (some .boolean) 1 7 := ⟨by decide, 5, T_S, 9, rfl, fun K i r j => ⟨_, rfl⟩, gd_v (wa_at (i := 584) (by decide +kernel) rfl) (wa_at (i := 422) (by decide +kernel) rfl) (wa_at (i := 423) (by decide +kernel) rfl) (wa_at (i := 3) (by decide +kernel) rfl) (wa_at (i := 424) (by decide +kernel) rfl), by decide +kernel, by decide +kernel, by decide +kernel⟩
theorem cs_X_319 : CsV "VillageMail" 319 y_O_add b_O_add 2 none 1 26 := ⟨by decide, 3, T_O, 2, rfl, fun K i r j => ⟨_, rfl⟩, gd_v (wa_at (i := 585) (by decide +kernel) rfl) (wa_at (i := 586) (by decide +kernel) rfl) (wa_at (i := 587) (by decide +kernel) rfl) (wa_at (i := 9) (by decide +kernel) rfl) (wa_at (i := 588) (by decide +kernel) rfl), by decide +kernel, by decide +kernel, by decide +kernel⟩
theorem cs_X_325 : CsS "VillageMail" 325 y_X_movePiece b_X_movePiece 4 (some .boolean) 3 := ⟨gd_s (wa_at (i := 593) (by decide +kernel) rfl) (wa_at (i := 594) (by decide +kernel) rfl) (wa_at (i := 1) (by decide +kernel) rfl) (wa_at (i := 595) (by decide +kernel) rfl), by decide +kernel, by decide +kernel, by decide +kernel⟩
theorem cs_X_335 : CsS "VillageMail" 335 y_X_isStore b_X_isStore 1 (some .boolean) 1 := ⟨gd_s (wa_at (i := 614) (by decide +kernel) rfl) (wa_at (i := 615) (by decide +kernel) rfl) (wa_at (i := 1) (by decide +kernel) rfl) (wa_at (i := 616) (by decide +kernel) rfl), by decide +kernel, by decide +kernel, by decide +kernel⟩
theorem cs_X_338 : CsV "VillageMail" 338 y_S_forgetPieces b_S_forgetPieces 2 none 0 7 := ⟨by decide, 5, T_S, 9, rfl, fun K i r j => ⟨_, rfl⟩, gd_v (wa_at (i := 617) (by decide +kernel) rfl) (wa_at (i := 618) (by decide +kernel) rfl) (wa_at (i := 619) (by decide +kernel) rfl) (wa_at (i := 3) (by decide +kernel) rfl) (wa_at (i := 620) (by decide +kernel) rfl), by decide +kernel, by decide +kernel, by decide +kernel⟩
theorem cs_X_67 : CsS "VillageMail" 67 y_X_isBus b_X_isBus 1 (some .boolean) 1 := ⟨gd_s (wa_at (i := 293) (by decide +kernel) rfl) (wa_at (i := 294) (by decide +kernel) rfl) (wa_at (i := 1) (by decide +kernel) rfl) (wa_at (i := 295) (by decide +kernel) rfl), by decide +kernel, by decide +kernel, by decide +kernel⟩
theorem cs_X_71 : CsS "VillageMail" 71 y_X_isKiosk b_X_isKiosk 1 (some .boolean) 1 := ⟨gd_s (wa_at (i := 296) (by decide +kernel) rfl) (wa_at (i := 297) (by decide +kernel) rfl) (wa_at (i := 1) (by decide +kernel) rfl) (wa_at (i := 298) (by decide +kernel) rfl), by decide +kernel, by decide +kernel, by decide +kernel⟩
theorem cs_X_74 : CsS "VillageMail" 74 y_X_isWithin b_X_isWithin 2 (some .boolean) 2 := ⟨gd_s (wa_at (i := 299) (by decide +kernel) rfl) (wa_at (i := 300) (by decide +kernel) rfl) (wa_at (i := 1) (by decide +kernel) rfl) (wa_at (i := 301) (by decide +kernel) rfl), by decide +kernel, by decide +kernel, by decide +kernel⟩
theorem cs_X_78 : CsS "VillageMail" 78 y_X_demand b_X_demand 1 none 1 := ⟨gd_s (wa_at (i := 302) (by decide +kernel) rfl) (wa_at (i := 303) (by decide +kernel) rfl) (wa_at (i := 1) (by decide +kernel) rfl) (wa_at (i := 304) (by decide +kernel) rfl), by decide +kernel, by decide +kernel, by decide +kernel⟩
theorem cs_X_82 : CsV "VillageMail" 82 y_T_find b_T_find 4 (some .int) 2 1 := ⟨by decide, 6, T_T, 4, rfl, fun K i r j => ⟨_, rfl⟩, gd_v (wa_at (i := 264) (by decide +kernel) rfl) (wa_at (i := 265) (by decide +kernel) rfl) (wa_at (i := 266) (by decide +kernel) rfl) (wa_at (i := 2) (by decide +kernel) rfl) (wa_at (i := 267) (by decide +kernel) rfl), by decide +kernel, by decide +kernel, by decide +kernel⟩
theorem cs_X_93 : CsV "VillageMail" 93 y_T_insert b_T_insert 5 none 3 1 := ⟨by decide, 6, T_T, 4, rfl, fun K i r j => ⟨_, rfl⟩, gd_v (wa_at (i := 384) (by decide +kernel) rfl) (wa_at (i := 385) (by decide +kernel) rfl) (wa_at (i := 386) (by decide +kernel) rfl) (wa_at (i := 2) (by decide +kernel) rfl) (wa_at (i := 387) (by decide +kernel) rfl), by decide +kernel, by decide +kernel, by decide +kernel⟩
theorem cs_X_97 : CsV "VillageMail" 97 y_T_takeOut b_T_takeOut 3 none 1 1 := ⟨by decide, 6, T_T, 4, rfl, fun K i r j => ⟨_, rfl⟩, gd_v (wa_at (i := 268) (by decide +kernel) rfl) (wa_at (i := 269) (by decide +kernel) rfl) (wa_at (i := 270) (by decide +kernel) rfl) (wa_at (i := 2) (by decide +kernel) rfl) (wa_at (i := 271) (by decide +kernel) rfl), by decide +kernel, by decide +kernel, by decide +kernel⟩
theorem mx_X_295 : Mx "VillageMail" 295 Lib.Math.max.name Lib.Math.max.code := ⟨wa_at (i := 558) (by decide +kernel) rfl, wa_at (i := 559) (by decide +kernel) rfl, wa_at (i := 17) (by decide +kernel) rfl, wa_at (i := 560) (by decide +kernel) rfl⟩
theorem mx_X_341 : Mx "VillageMail" 341 Lib.Math.min.name Lib.Math.min.code := ⟨wa_at (i := 629) (by decide +kernel) rfl, wa_at (i := 630) (by decide +kernel) rfl, wa_at (i := 17) (by decide +kernel) rfl, wa_at (i := 631) (by decide +kernel) rfl⟩
theorem xs_X_344 : Xs "VillageMail" 344 346 "java/util/NoSuchElementException" 4 := ⟨rfl, wa_at (i := 632) (by decide +kernel) rfl, wa_at (i := 18) (by decide +kernel) rfl, trivial⟩
theorem xs_X_347 : Xs "VillageMail" 347 349 "java/lang/IllegalArgumentException" 1 := ⟨rfl, wa_at (i := 305) (by decide +kernel) rfl, wa_at (i := 14) (by decide +kernel) rfl, trivial⟩
theorem xs_X_350 : Xs "VillageMail" 350 352 "java/lang/IndexOutOfBoundsException" 3 := ⟨rfl, wa_at (i := 665) (by decide +kernel) rfl, wa_at (i := 19) (by decide +kernel) rfl, trivial⟩
theorem xs_X_90 : Xs "VillageMail" 90 92 "java/lang/IllegalStateException" 2 := ⟨rfl, wa_at (i := 369) (by decide +kernel) rfl, wa_at (i := 15) (by decide +kernel) rfl, trivial⟩
end
section
section VFill
theorem ww_alenI {K : KK} {Γ : Cx} {cc : ByteArray} {own : String} {nL fr lo n : Nat} {σ : Mem} {pc : Nat} {L : List (Nat × Value)} {S : List Value} {F i N : Nat} (G : Good K Γ cc own nL fr lo) (ar : ArI F N) (hi : i < cnt F) (d : decode cc pc = .ok (.arraylength, 1)) (k : WW K Γ n σ (pc + 1) L (.int (nI N) :: S)) : WW K Γ n σ pc L (.ref (aa K F i) :: S) := by
  obtain ⟨p, l, e, R, s, m, args, below, meth, c, Q, c0, s0⟩ := Γ
  obtain ⟨hx, hb, hml, hown, hts, hK, hR, hlk, hz, hst, hU, hN⟩ := G
  intro H locs ls hl hP hD hS
  exact va_alen (x := (N, .inl (σ.1 F i))) hx hb hK hP (tb_pos F i) 0 ((FL_at ar.1 hi).trans (by show some (_, ctR K F i (σ.1 F i) (σ.2 F i)) = _; rw [ar.2])) rfl rfl d (k H locs ls hl hP hD hS)
theorem ww_alenJ {K : KK} {Γ : Cx} {cc : ByteArray} {own : String} {nL fr lo n : Nat} {σ : Mem} {pc : Nat} {L : List (Nat × Value)} {S : List Value} {F i N : Nat} (G : Good K Γ cc own nL fr lo) (ar : ArJ F N) (hi : i < cnt F) (d : decode cc pc = .ok (.arraylength, 1)) (k : WW K Γ n σ (pc + 1) L (.int (nI N) :: S)) : WW K Γ n σ pc L (.ref (aa K F i) :: S) := by
  obtain ⟨p, l, e, R, s, m, args, below, meth, c, Q, c0, s0⟩ := Γ
  obtain ⟨hx, hb, hml, hown, hts, hK, hR, hlk, hz, hst, hU, hN⟩ := G
  intro H locs ls hl hP hD hS
  exact va_alen (x := (N, .inr (.inl (σ.2 F i)))) hx hb hK hP (tb_pos F i) 1 ((FL_at ar.1 hi).trans (by show some (_, ctR K F i (σ.1 F i) (σ.2 F i)) = _; rw [ar.2])) rfl rfl d (k H locs ls hl hP hD hS)
theorem d_A_fill_0 : decode b_A_fill 0 = .ok (.iconst 0, 1) := by decide +kernel
theorem d_A_fill_1 : decode b_A_fill 1 = .ok (.istore_n 2, 1) := by decide +kernel
theorem d_A_fill_2 : decode b_A_fill 2 = .ok (.aload_n 0, 1) := by decide +kernel
theorem d_A_fill_3 : decode b_A_fill 3 = .ok (.arraylength, 1) := by decide +kernel
theorem d_A_fill_4 : decode b_A_fill 4 = .ok (.istore_n 3, 1) := by decide +kernel
theorem d_A_fill_5 : decode b_A_fill 5 = .ok (.iload_n 2, 1) := by decide +kernel
theorem d_A_fill_6 : decode b_A_fill 6 = .ok (.iload_n 3, 1) := by decide +kernel
theorem d_A_fill_7 : decode b_A_fill 7 = .ok (.if_icmp .ge 13, 3) := by decide +kernel
theorem d_A_fill_10 : decode b_A_fill 10 = .ok (.aload_n 0, 1) := by decide +kernel
theorem d_A_fill_11 : decode b_A_fill 11 = .ok (.iload_n 2, 1) := by decide +kernel
theorem d_A_fill_12 : decode b_A_fill 12 = .ok (.iload_n 1, 1) := by decide +kernel
theorem d_A_fill_13 : decode b_A_fill 13 = .ok (.iastore, 1) := by decide +kernel
theorem d_A_fill_14 : decode b_A_fill 14 = .ok (.iinc 2 1, 3) := by decide +kernel
theorem d_A_fill_17 : decode b_A_fill 17 = .ok (.goto (-12), 3) := by decide +kernel
theorem d_A_fill_20 : decode b_A_fill 20 = .ok (.return_, 1) := by decide +kernel
def lp_A_fill_5 (F i N : Nat) (x1 x3 : Int32) (k : Mem → RR) : Nat → Int32 → Mem → RR
  | 0, _, _ => none
  | n + 1, x2, s => if x3 ≤ x2 then k s else (mm_st s F i N x2 x1 fun s13 => lp_A_fill_5 F i N x1 x3 k n (x2 + (1 : Int32)) s13)
set_option maxRecDepth 100000 in
set_option maxHeartbeats 4000000 in
theorem lp_A_fill_5_ok {K : KK} {Γ : Cx} {o : Oc} {q : Mem} (F i N : Nat) (ar : ArI F N) (hi : i < cnt F) (x1 x3 : Int32) (k : Mem → RR) (G : Good K Γ b_A_fill "java/util/Arrays" 4 0 0)
    (Kx : ∀ (s : Mem), k s = some (o, q) → WW K Γ 0 s 20 [] []) :
    ∀ (n : Nat) (x2 : Int32) (s : Mem), lp_A_fill_5 F i N x1 x3 k n x2 s = some (o, q) → WW K Γ 0 s 5 [(0, .ref (aa K F i)), (1, .int x1), (2, .int x2), (3, .int x3)] [] := by
  intro n
  induction n with
  | zero => intro _ _ h; exact nomatch h
  | succ n ih =>
    intro x2 s h
    unfold lp_A_fill_5 at h
    refine ww_iload_n 2 G d_A_fill_5 rfl rfl ?_
    refine ww_iload_n 3 G d_A_fill_6 rfl rfl ?_
    refine ww_icmpge (tgt := 20) G d_A_fill_7 (by decide) h (fun h => ?_) (fun h => ?_)
    · refine ww_sub [] rfl ?_
      exact Kx _ h
    · refine ww_aload_n 0 G d_A_fill_10 rfl rfl ?_
      refine ww_iload_n 2 G d_A_fill_11 rfl rfl ?_
      refine ww_iload_n 1 G d_A_fill_12 rfl rfl ?_
      refine ww_iastore G ar hi d_A_fill_13 h (fun s13 h => ?_)
      refine ww_iinc 2 (L' := [(2, _), (0, _), (1, _), (3, _)]) G d_A_fill_14 rfl ic_1 (by decide) rfl ?_
      refine ww_goto (tgt := 5) G d_A_fill_17 (by decide) ?_
      refine ww_sub [1, 2, 0, 3] rfl ?_
      exact ih _ _ h
def f_A_fill (F i N : Nat) (x1 : Int32) (s : Mem) : RR := mm_lp (fun kk => lp_A_fill_5 F i N x1 (nI N) kk FU (0 : Int32) s) fun s5 => mm_rv s5
set_option maxRecDepth 100000 in
set_option maxHeartbeats 4000000 in
theorem c_A_fill {l : Launch} {K : KK} (F i N : Nat) (ar : ArI F N) (hi : i < cnt F) {x1 : Int32} {s : Mem} (o : Oc) (q : Mem) (h : f_A_fill F i N x1 s = some (o, q)) : Ct l K y_A_fill b_A_fill 4 none 0 0 [.ref (aa K F i), .int x1] s o q := by
  refine Ct_of (own := "java/util/Arrays") (L := [(0, _), (1, _)]) (by decide +kernel) rfl (Nat.le_of_ble_eq_true rfl) rfl (fun Γ G E => ?_)
  unfold f_A_fill at h
  refine ww_iconst (v := (0 : Int32)) G d_A_fill_0 ic_0 ?_
  refine ww_istore_n (L' := [(2, _), (0, _), (1, _)]) G d_A_fill_1 rfl (by decide) rfl ?_
  refine ww_aload_n 1 G d_A_fill_2 rfl rfl ?_
  refine ww_alenI G ar hi d_A_fill_3 ?_
  refine ww_istore_n (L' := [(3, _), (2, _), (0, _), (1, _)]) G d_A_fill_4 rfl (by decide) rfl ?_
  refine ww_sub [2, 3, 1, 0] rfl ?_
  refine lp_A_fill_5_ok F i N ar hi _ _ _ G (fun s5 h => ?_) FU _ _ h
  exact ww_vret G E d_A_fill_20 h
theorem d_A_fillJ_0 : decode b_A_fillJ 0 = .ok (.iconst 0, 1) := by decide +kernel
theorem d_A_fillJ_1 : decode b_A_fillJ 1 = .ok (.istore_n 3, 1) := by decide +kernel
theorem d_A_fillJ_2 : decode b_A_fillJ 2 = .ok (.aload_n 0, 1) := by decide +kernel
theorem d_A_fillJ_3 : decode b_A_fillJ 3 = .ok (.arraylength, 1) := by decide +kernel
theorem d_A_fillJ_4 : decode b_A_fillJ 4 = .ok (.istore 4, 2) := by decide +kernel
theorem d_A_fillJ_6 : decode b_A_fillJ 6 = .ok (.iload_n 3, 1) := by decide +kernel
theorem d_A_fillJ_7 : decode b_A_fillJ 7 = .ok (.iload 4, 2) := by decide +kernel
theorem d_A_fillJ_9 : decode b_A_fillJ 9 = .ok (.if_icmp .ge 13, 3) := by decide +kernel
theorem d_A_fillJ_12 : decode b_A_fillJ 12 = .ok (.aload_n 0, 1) := by decide +kernel
theorem d_A_fillJ_13 : decode b_A_fillJ 13 = .ok (.iload_n 3, 1) := by decide +kernel
theorem d_A_fillJ_14 : decode b_A_fillJ 14 = .ok (.lload_n 1, 1) := by decide +kernel
theorem d_A_fillJ_15 : decode b_A_fillJ 15 = .ok (.lastore, 1) := by decide +kernel
theorem d_A_fillJ_16 : decode b_A_fillJ 16 = .ok (.iinc 3 1, 3) := by decide +kernel
theorem d_A_fillJ_19 : decode b_A_fillJ 19 = .ok (.goto (-13), 3) := by decide +kernel
theorem d_A_fillJ_22 : decode b_A_fillJ 22 = .ok (.return_, 1) := by decide +kernel
def lp_A_fillJ_6 (F i N : Nat) (x1 : Int64) (x4 : Int32) (k : Mem → RR) : Nat → Int32 → Mem → RR
  | 0, _, _ => none
  | n + 1, x3, s => if x4 ≤ x3 then k s else (mm_stj s F i N x3 x1 fun s15 => lp_A_fillJ_6 F i N x1 x4 k n (x3 + (1 : Int32)) s15)
set_option maxRecDepth 100000 in
set_option maxHeartbeats 4000000 in
theorem lp_A_fillJ_6_ok {K : KK} {Γ : Cx} {o : Oc} {q : Mem} (F i N : Nat) (ar : ArJ F N) (hi : i < cnt F) (x1 : Int64) (x4 : Int32) (k : Mem → RR) (G : Good K Γ b_A_fillJ "java/util/Arrays" 5 0 0)
    (Kx : ∀ (s : Mem), k s = some (o, q) → WW K Γ 0 s 22 [] []) :
    ∀ (n : Nat) (x3 : Int32) (s : Mem), lp_A_fillJ_6 F i N x1 x4 k n x3 s = some (o, q) → WW K Γ 0 s 6 [(0, .ref (aa K F i)), (1, .long x1), (3, .int x3), (4, .int x4)] [] := by
  intro n
  induction n with
  | zero => intro _ _ h; exact nomatch h
  | succ n ih =>
    intro x3 s h
    unfold lp_A_fillJ_6 at h
    refine ww_iload_n 2 G d_A_fillJ_6 rfl rfl ?_
    refine ww_iload 3 G d_A_fillJ_7 rfl ?_
    refine ww_icmpge (tgt := 22) G d_A_fillJ_9 (by decide) h (fun h => ?_) (fun h => ?_)
    · refine ww_sub [] rfl ?_
      exact Kx _ h
    · refine ww_aload_n 0 G d_A_fillJ_12 rfl rfl ?_
      refine ww_iload_n 2 G d_A_fillJ_13 rfl rfl ?_
      refine ww_lload_n 1 G d_A_fillJ_14 rfl rfl ?_
      refine ww_lastore G ar hi d_A_fillJ_15 h (fun s15 h => ?_)
      refine ww_iinc 2 (L' := [(3, _), (0, _), (1, _), (4, _)]) G d_A_fillJ_16 rfl ic_1 (by decide) rfl ?_
      refine ww_goto (tgt := 6) G d_A_fillJ_19 (by decide) ?_
      refine ww_sub [1, 2, 0, 3] rfl ?_
      exact ih _ _ h
def f_A_fillJ (F i N : Nat) (x1 : Int64) (s : Mem) : RR := mm_lp (fun kk => lp_A_fillJ_6 F i N x1 (nI N) kk FU (0 : Int32) s) fun s6 => mm_rv s6
set_option maxRecDepth 100000 in
set_option maxHeartbeats 4000000 in
theorem c_A_fillJ {l : Launch} {K : KK} (F i N : Nat) (ar : ArJ F N) (hi : i < cnt F) {x1 : Int64} {s : Mem} (o : Oc) (q : Mem) (h : f_A_fillJ F i N x1 s = some (o, q)) : Ct l K y_A_fillJ b_A_fillJ 5 none 0 0 [.ref (aa K F i), .long x1] s o q := by
  refine Ct_of (own := "java/util/Arrays") (L := [(0, _), (1, _)]) (by decide +kernel) rfl (Nat.le_of_ble_eq_true rfl) rfl (fun Γ G E => ?_)
  unfold f_A_fillJ at h
  refine ww_iconst (v := (0 : Int32)) G d_A_fillJ_0 ic_0 ?_
  refine ww_istore_n (L' := [(3, _), (0, _), (1, _)]) G d_A_fillJ_1 rfl (by decide) rfl ?_
  refine ww_aload_n 1 G d_A_fillJ_2 rfl rfl ?_
  refine ww_alenJ G ar hi d_A_fillJ_3 ?_
  refine ww_istore (L' := [(4, _), (3, _), (0, _), (1, _)]) G d_A_fillJ_4 (by decide) rfl ?_
  refine ww_sub [2, 3, 1, 0] rfl ?_
  refine lp_A_fillJ_6_ok F i N ar hi _ _ _ G (fun s6 h => ?_) FU _ _ h
  exact ww_vret G E d_A_fillJ_22 h
end VFill
end
section
theorem d_B_fits_0 : decode b_B_fits 0 = .ok (.aload_n 0, 1) := by decide +kernel
theorem d_B_fits_1 : decode b_B_fits 1 = .ok (.getfield 19, 3) := by decide +kernel
theorem d_B_fits_4 : decode b_B_fits 4 = .ok (.iload_n 1, 1) := by decide +kernel
theorem d_B_fits_5 : decode b_B_fits 5 = .ok (.iadd, 1) := by decide +kernel
theorem d_B_fits_6 : decode b_B_fits 6 = .ok (.aload_n 0, 1) := by decide +kernel
theorem d_B_fits_7 : decode b_B_fits 7 = .ok (.getfield 15, 3) := by decide +kernel
theorem d_B_fits_10 : decode b_B_fits 10 = .ok (.if_icmp .gt 7, 3) := by decide +kernel
theorem d_B_fits_13 : decode b_B_fits 13 = .ok (.iconst 1, 1) := by decide +kernel
theorem d_B_fits_14 : decode b_B_fits 14 = .ok (.goto 4, 3) := by decide +kernel
theorem d_B_fits_17 : decode b_B_fits 17 = .ok (.iconst 0, 1) := by decide +kernel
theorem d_B_fits_18 : decode b_B_fits 18 = .ok (.ireturn, 1) := by decide +kernel
theorem d_B_put_0 : decode b_B_put 0 = .ok (.aload_n 0, 1) := by decide +kernel
theorem d_B_put_1 : decode b_B_put 1 = .ok (.getfield 9, 3) := by decide +kernel
theorem d_B_put_4 : decode b_B_put 4 = .ok (.aload_n 0, 1) := by decide +kernel
theorem d_B_put_5 : decode b_B_put 5 = .ok (.getfield 22, 3) := by decide +kernel
theorem d_B_put_8 : decode b_B_put 8 = .ok (.iload_n 1, 1) := by decide +kernel
theorem d_B_put_9 : decode b_B_put 9 = .ok (.iastore, 1) := by decide +kernel
theorem d_B_put_10 : decode b_B_put 10 = .ok (.aload_n 0, 1) := by decide +kernel
theorem d_B_put_11 : decode b_B_put 11 = .ok (.dup, 1) := by decide +kernel
theorem d_B_put_12 : decode b_B_put 12 = .ok (.getfield 22, 3) := by decide +kernel
theorem d_B_put_15 : decode b_B_put 15 = .ok (.iconst 1, 1) := by decide +kernel
theorem d_B_put_16 : decode b_B_put 16 = .ok (.iadd, 1) := by decide +kernel
theorem d_B_put_17 : decode b_B_put 17 = .ok (.putfield 22, 3) := by decide +kernel
theorem d_B_put_20 : decode b_B_put 20 = .ok (.aload_n 0, 1) := by decide +kernel
theorem d_B_put_21 : decode b_B_put 21 = .ok (.dup, 1) := by decide +kernel
theorem d_B_put_22 : decode b_B_put 22 = .ok (.getfield 19, 3) := by decide +kernel
theorem d_B_put_25 : decode b_B_put 25 = .ok (.iload_n 2, 1) := by decide +kernel
theorem d_B_put_26 : decode b_B_put 26 = .ok (.iadd, 1) := by decide +kernel
theorem d_B_put_27 : decode b_B_put 27 = .ok (.putfield 19, 3) := by decide +kernel
theorem d_B_put_30 : decode b_B_put 30 = .ok (.return_, 1) := by decide +kernel
theorem d_B_takeOut_0 : decode b_B_takeOut 0 = .ok (.aload_n 0, 1) := by decide +kernel
theorem d_B_takeOut_1 : decode b_B_takeOut 1 = .ok (.dup, 1) := by decide +kernel
theorem d_B_takeOut_2 : decode b_B_takeOut 2 = .ok (.getfield 22, 3) := by decide +kernel
theorem d_B_takeOut_5 : decode b_B_takeOut 5 = .ok (.iconst 1, 1) := by decide +kernel
theorem d_B_takeOut_6 : decode b_B_takeOut 6 = .ok (.isub, 1) := by decide +kernel
theorem d_B_takeOut_7 : decode b_B_takeOut 7 = .ok (.putfield 22, 3) := by decide +kernel
theorem d_B_takeOut_10 : decode b_B_takeOut 10 = .ok (.aload_n 0, 1) := by decide +kernel
theorem d_B_takeOut_11 : decode b_B_takeOut 11 = .ok (.dup, 1) := by decide +kernel
theorem d_B_takeOut_12 : decode b_B_takeOut 12 = .ok (.getfield 19, 3) := by decide +kernel
theorem d_B_takeOut_15 : decode b_B_takeOut 15 = .ok (.iload_n 2, 1) := by decide +kernel
theorem d_B_takeOut_16 : decode b_B_takeOut 16 = .ok (.isub, 1) := by decide +kernel
theorem d_B_takeOut_17 : decode b_B_takeOut 17 = .ok (.putfield 19, 3) := by decide +kernel
theorem d_B_takeOut_20 : decode b_B_takeOut 20 = .ok (.iload_n 1, 1) := by decide +kernel
theorem d_B_takeOut_21 : decode b_B_takeOut 21 = .ok (.istore_n 3, 1) := by decide +kernel
theorem d_B_takeOut_22 : decode b_B_takeOut 22 = .ok (.iload_n 3, 1) := by decide +kernel
theorem d_B_takeOut_23 : decode b_B_takeOut 23 = .ok (.aload_n 0, 1) := by decide +kernel
theorem d_B_takeOut_24 : decode b_B_takeOut 24 = .ok (.getfield 22, 3) := by decide +kernel
theorem d_B_takeOut_27 : decode b_B_takeOut 27 = .ok (.if_icmp .ge 23, 3) := by decide +kernel
theorem d_B_takeOut_30 : decode b_B_takeOut 30 = .ok (.aload_n 0, 1) := by decide +kernel
theorem d_B_takeOut_31 : decode b_B_takeOut 31 = .ok (.getfield 9, 3) := by decide +kernel
theorem d_B_takeOut_34 : decode b_B_takeOut 34 = .ok (.iload_n 3, 1) := by decide +kernel
theorem d_B_takeOut_35 : decode b_B_takeOut 35 = .ok (.aload_n 0, 1) := by decide +kernel
theorem d_B_takeOut_36 : decode b_B_takeOut 36 = .ok (.getfield 9, 3) := by decide +kernel
theorem d_B_takeOut_39 : decode b_B_takeOut 39 = .ok (.iload_n 3, 1) := by decide +kernel
theorem d_B_takeOut_40 : decode b_B_takeOut 40 = .ok (.iconst 1, 1) := by decide +kernel
theorem d_B_takeOut_41 : decode b_B_takeOut 41 = .ok (.iadd, 1) := by decide +kernel
theorem d_B_takeOut_42 : decode b_B_takeOut 42 = .ok (.iaload, 1) := by decide +kernel
theorem d_B_takeOut_43 : decode b_B_takeOut 43 = .ok (.iastore, 1) := by decide +kernel
theorem d_B_takeOut_44 : decode b_B_takeOut 44 = .ok (.iinc 3 1, 3) := by decide +kernel
theorem d_B_takeOut_47 : decode b_B_takeOut 47 = .ok (.goto (-25), 3) := by decide +kernel
theorem d_B_takeOut_50 : decode b_B_takeOut 50 = .ok (.return_, 1) := by decide +kernel
end
section
theorem d_C_toggle_0 : decode b_C_toggle 0 = .ok (.aload_n 0, 1) := by decide +kernel
theorem d_C_toggle_1 : decode b_C_toggle 1 = .ok (.getfield 18, 3) := by decide +kernel
theorem d_C_toggle_4 : decode b_C_toggle 4 = .ok (.iload_n 1, 1) := by decide +kernel
theorem d_C_toggle_5 : decode b_C_toggle 5 = .ok (.dup2, 1) := by decide +kernel
theorem d_C_toggle_6 : decode b_C_toggle 6 = .ok (.iaload, 1) := by decide +kernel
theorem d_C_toggle_7 : decode b_C_toggle 7 = .ok (.iconst 1, 1) := by decide +kernel
theorem d_C_toggle_8 : decode b_C_toggle 8 = .ok (.iload_n 2, 1) := by decide +kernel
theorem d_C_toggle_9 : decode b_C_toggle 9 = .ok (.ishl, 1) := by decide +kernel
theorem d_C_toggle_10 : decode b_C_toggle 10 = .ok (.ixor, 1) := by decide +kernel
theorem d_C_toggle_11 : decode b_C_toggle 11 = .ok (.iastore, 1) := by decide +kernel
theorem d_C_toggle_12 : decode b_C_toggle 12 = .ok (.aload_n 0, 1) := by decide +kernel
theorem d_C_toggle_13 : decode b_C_toggle 13 = .ok (.getfield 18, 3) := by decide +kernel
theorem d_C_toggle_16 : decode b_C_toggle 16 = .ok (.iload_n 1, 1) := by decide +kernel
theorem d_C_toggle_17 : decode b_C_toggle 17 = .ok (.iaload, 1) := by decide +kernel
theorem d_C_toggle_18 : decode b_C_toggle 18 = .ok (.iload_n 2, 1) := by decide +kernel
theorem d_C_toggle_19 : decode b_C_toggle 19 = .ok (.ishr, 1) := by decide +kernel
theorem d_C_toggle_20 : decode b_C_toggle 20 = .ok (.iconst 1, 1) := by decide +kernel
theorem d_C_toggle_21 : decode b_C_toggle 21 = .ok (.iand, 1) := by decide +kernel
theorem d_C_toggle_22 : decode b_C_toggle 22 = .ok (.iconst 1, 1) := by decide +kernel
theorem d_C_toggle_23 : decode b_C_toggle 23 = .ok (.if_icmp .ne 7, 3) := by decide +kernel
theorem d_C_toggle_26 : decode b_C_toggle 26 = .ok (.iconst 1, 1) := by decide +kernel
theorem d_C_toggle_27 : decode b_C_toggle 27 = .ok (.goto 4, 3) := by decide +kernel
theorem d_C_toggle_30 : decode b_C_toggle 30 = .ok (.iconst 0, 1) := by decide +kernel
theorem d_C_toggle_31 : decode b_C_toggle 31 = .ok (.ireturn, 1) := by decide +kernel
theorem d_C_addressedBy_0 : decode b_C_addressedBy 0 = .ok (.iload_n 1, 1) := by decide +kernel
theorem d_C_addressedBy_1 : decode b_C_addressedBy 1 = .ok (.iconst 3, 1) := by decide +kernel
theorem d_C_addressedBy_2 : decode b_C_addressedBy 2 = .ok (.if_icmp .ge 9, 3) := by decide +kernel
theorem d_C_addressedBy_5 : decode b_C_addressedBy 5 = .ok (.iconst 1, 1) := by decide +kernel
theorem d_C_addressedBy_6 : decode b_C_addressedBy 6 = .ok (.iload_n 1, 1) := by decide +kernel
theorem d_C_addressedBy_7 : decode b_C_addressedBy 7 = .ok (.ishl, 1) := by decide +kernel
theorem d_C_addressedBy_8 : decode b_C_addressedBy 8 = .ok (.goto 11, 3) := by decide +kernel
theorem d_C_addressedBy_11 : decode b_C_addressedBy 11 = .ok (.aload_n 0, 1) := by decide +kernel
theorem d_C_addressedBy_12 : decode b_C_addressedBy 12 = .ok (.getfield 18, 3) := by decide +kernel
theorem d_C_addressedBy_15 : decode b_C_addressedBy 15 = .ok (.iload_n 1, 1) := by decide +kernel
theorem d_C_addressedBy_16 : decode b_C_addressedBy 16 = .ok (.iconst 3, 1) := by decide +kernel
theorem d_C_addressedBy_17 : decode b_C_addressedBy 17 = .ok (.isub, 1) := by decide +kernel
theorem d_C_addressedBy_18 : decode b_C_addressedBy 18 = .ok (.iaload, 1) := by decide +kernel
theorem d_C_addressedBy_19 : decode b_C_addressedBy 19 = .ok (.ireturn, 1) := by decide +kernel
theorem d_C_allFit_0 : decode b_C_allFit 0 = .ok (.iconst 0, 1) := by decide +kernel
theorem d_C_allFit_1 : decode b_C_allFit 1 = .ok (.istore_n 3, 1) := by decide +kernel
theorem d_C_allFit_2 : decode b_C_allFit 2 = .ok (.iload_n 3, 1) := by decide +kernel
theorem d_C_allFit_3 : decode b_C_allFit 3 = .ok (.iconst 3, 1) := by decide +kernel
theorem d_C_allFit_4 : decode b_C_allFit 4 = .ok (.if_icmp .ge 33, 3) := by decide +kernel
theorem d_C_allFit_7 : decode b_C_allFit 7 = .ok (.iload_n 1, 1) := by decide +kernel
theorem d_C_allFit_8 : decode b_C_allFit 8 = .ok (.iload_n 3, 1) := by decide +kernel
theorem d_C_allFit_9 : decode b_C_allFit 9 = .ok (.ishr, 1) := by decide +kernel
theorem d_C_allFit_10 : decode b_C_allFit 10 = .ok (.iconst 1, 1) := by decide +kernel
theorem d_C_allFit_11 : decode b_C_allFit 11 = .ok (.iand, 1) := by decide +kernel
theorem d_C_allFit_12 : decode b_C_allFit 12 = .ok (.iconst 1, 1) := by decide +kernel
theorem d_C_allFit_13 : decode b_C_allFit 13 = .ok (.if_icmp .ne 18, 3) := by decide +kernel
theorem d_C_allFit_16 : decode b_C_allFit 16 = .ok (.aload_n 0, 1) := by decide +kernel
theorem d_C_allFit_17 : decode b_C_allFit 17 = .ok (.getfield 11, 3) := by decide +kernel
theorem d_C_allFit_20 : decode b_C_allFit 20 = .ok (.iload_n 3, 1) := by decide +kernel
theorem d_C_allFit_21 : decode b_C_allFit 21 = .ok (.aaload, 1) := by decide +kernel
theorem d_C_allFit_22 : decode b_C_allFit 22 = .ok (.iload_n 2, 1) := by decide +kernel
theorem d_C_allFit_23 : decode b_C_allFit 23 = .ok (.invokevirtual 34, 3) := by decide +kernel
theorem d_C_allFit_26 : decode b_C_allFit 26 = .ok (.ifCond .ne 5, 3) := by decide +kernel
theorem d_C_allFit_29 : decode b_C_allFit 29 = .ok (.iconst 0, 1) := by decide +kernel
theorem d_C_allFit_30 : decode b_C_allFit 30 = .ok (.ireturn, 1) := by decide +kernel
theorem d_C_allFit_31 : decode b_C_allFit 31 = .ok (.iinc 3 1, 3) := by decide +kernel
theorem d_C_allFit_34 : decode b_C_allFit 34 = .ok (.goto (-32), 3) := by decide +kernel
theorem d_C_allFit_37 : decode b_C_allFit 37 = .ok (.iconst 1, 1) := by decide +kernel
theorem d_C_allFit_38 : decode b_C_allFit 38 = .ok (.ireturn, 1) := by decide +kernel
theorem d_C_putInto_0 : decode b_C_putInto 0 = .ok (.aload_n 0, 1) := by decide +kernel
theorem d_C_putInto_1 : decode b_C_putInto 1 = .ok (.iload_n 1, 1) := by decide +kernel
theorem d_C_putInto_2 : decode b_C_putInto 2 = .ok (.invokevirtual 22, 3) := by decide +kernel
theorem d_C_putInto_5 : decode b_C_putInto 5 = .ok (.istore 4, 2) := by decide +kernel
theorem d_C_putInto_7 : decode b_C_putInto 7 = .ok (.iload 4, 2) := by decide +kernel
theorem d_C_putInto_9 : decode b_C_putInto 9 = .ok (.ifCond .eq 13, 3) := by decide +kernel
theorem d_C_putInto_12 : decode b_C_putInto 12 = .ok (.aload_n 0, 1) := by decide +kernel
theorem d_C_putInto_13 : decode b_C_putInto 13 = .ok (.iload 4, 2) := by decide +kernel
theorem d_C_putInto_15 : decode b_C_putInto 15 = .ok (.iload_n 3, 1) := by decide +kernel
theorem d_C_putInto_16 : decode b_C_putInto 16 = .ok (.invokevirtual 26, 3) := by decide +kernel
theorem d_C_putInto_19 : decode b_C_putInto 19 = .ok (.ifCond .ne 5, 3) := by decide +kernel
theorem d_C_putInto_22 : decode b_C_putInto 22 = .ok (.iconst 0, 1) := by decide +kernel
theorem d_C_putInto_23 : decode b_C_putInto 23 = .ok (.ireturn, 1) := by decide +kernel
theorem d_C_putInto_24 : decode b_C_putInto 24 = .ok (.iconst 0, 1) := by decide +kernel
theorem d_C_putInto_25 : decode b_C_putInto 25 = .ok (.istore 5, 2) := by decide +kernel
theorem d_C_putInto_27 : decode b_C_putInto 27 = .ok (.iload 5, 2) := by decide +kernel
theorem d_C_putInto_29 : decode b_C_putInto 29 = .ok (.iconst 3, 1) := by decide +kernel
theorem d_C_putInto_30 : decode b_C_putInto 30 = .ok (.if_icmp .ge 32, 3) := by decide +kernel
theorem d_C_putInto_33 : decode b_C_putInto 33 = .ok (.iload 4, 2) := by decide +kernel
theorem d_C_putInto_35 : decode b_C_putInto 35 = .ok (.iload 5, 2) := by decide +kernel
theorem d_C_putInto_37 : decode b_C_putInto 37 = .ok (.ishr, 1) := by decide +kernel
theorem d_C_putInto_38 : decode b_C_putInto 38 = .ok (.iconst 1, 1) := by decide +kernel
theorem d_C_putInto_39 : decode b_C_putInto 39 = .ok (.iand, 1) := by decide +kernel
theorem d_C_putInto_40 : decode b_C_putInto 40 = .ok (.iconst 1, 1) := by decide +kernel
theorem d_C_putInto_41 : decode b_C_putInto 41 = .ok (.if_icmp .ne 15, 3) := by decide +kernel
theorem d_C_putInto_44 : decode b_C_putInto 44 = .ok (.aload_n 0, 1) := by decide +kernel
theorem d_C_putInto_45 : decode b_C_putInto 45 = .ok (.getfield 11, 3) := by decide +kernel
theorem d_C_putInto_48 : decode b_C_putInto 48 = .ok (.iload 5, 2) := by decide +kernel
theorem d_C_putInto_50 : decode b_C_putInto 50 = .ok (.aaload, 1) := by decide +kernel
theorem d_C_putInto_51 : decode b_C_putInto 51 = .ok (.iload_n 2, 1) := by decide +kernel
theorem d_C_putInto_52 : decode b_C_putInto 52 = .ok (.iload_n 3, 1) := by decide +kernel
theorem d_C_putInto_53 : decode b_C_putInto 53 = .ok (.invokevirtual 30, 3) := by decide +kernel
theorem d_C_putInto_56 : decode b_C_putInto 56 = .ok (.iinc 5 1, 3) := by decide +kernel
theorem d_C_putInto_59 : decode b_C_putInto 59 = .ok (.goto (-32), 3) := by decide +kernel
theorem d_C_putInto_62 : decode b_C_putInto 62 = .ok (.iconst 1, 1) := by decide +kernel
theorem d_C_putInto_63 : decode b_C_putInto 63 = .ok (.ireturn, 1) := by decide +kernel
end
section
theorem d_J_floorMod_0 : decode b_J_floorMod 0 = .ok (.iload_n 0, 1) := by decide +kernel
theorem d_J_floorMod_1 : decode b_J_floorMod 1 = .ok (.iload_n 1, 1) := by decide +kernel
theorem d_J_floorMod_2 : decode b_J_floorMod 2 = .ok (.irem, 1) := by decide +kernel
theorem d_J_floorMod_3 : decode b_J_floorMod 3 = .ok (.istore_n 2, 1) := by decide +kernel
theorem d_J_floorMod_4 : decode b_J_floorMod 4 = .ok (.iload_n 0, 1) := by decide +kernel
theorem d_J_floorMod_5 : decode b_J_floorMod 5 = .ok (.iload_n 1, 1) := by decide +kernel
theorem d_J_floorMod_6 : decode b_J_floorMod 6 = .ok (.ixor, 1) := by decide +kernel
theorem d_J_floorMod_7 : decode b_J_floorMod 7 = .ok (.ifCond .ge 11, 3) := by decide +kernel
theorem d_J_floorMod_10 : decode b_J_floorMod 10 = .ok (.iload_n 2, 1) := by decide +kernel
theorem d_J_floorMod_11 : decode b_J_floorMod 11 = .ok (.ifCond .eq 7, 3) := by decide +kernel
theorem d_J_floorMod_14 : decode b_J_floorMod 14 = .ok (.iload_n 2, 1) := by decide +kernel
theorem d_J_floorMod_15 : decode b_J_floorMod 15 = .ok (.iload_n 1, 1) := by decide +kernel
theorem d_J_floorMod_16 : decode b_J_floorMod 16 = .ok (.iadd, 1) := by decide +kernel
theorem d_J_floorMod_17 : decode b_J_floorMod 17 = .ok (.ireturn, 1) := by decide +kernel
theorem d_J_floorMod_18 : decode b_J_floorMod 18 = .ok (.iload_n 2, 1) := by decide +kernel
theorem d_J_floorMod_19 : decode b_J_floorMod 19 = .ok (.ireturn, 1) := by decide +kernel
end
section
theorem d_M_thrown_0 : decode b_M_thrown 0 = .ok (.aload_n 0, 1) := by decide +kernel
theorem d_M_thrown_1 : decode b_M_thrown 1 = .ok (.getfield 104, 3) := by decide +kernel
theorem d_M_thrown_4 : decode b_M_thrown 4 = .ok (.ireturn, 1) := by decide +kernel
theorem d_M_upTo_0 : decode b_M_upTo 0 = .ok (.iload_n 0, 1) := by decide +kernel
theorem d_M_upTo_1 : decode b_M_upTo 1 = .ok (.ifCond .lt 12, 3) := by decide +kernel
theorem d_M_upTo_4 : decode b_M_upTo 4 = .ok (.iload_n 0, 1) := by decide +kernel
theorem d_M_upTo_5 : decode b_M_upTo 5 = .ok (.iload_n 1, 1) := by decide +kernel
theorem d_M_upTo_6 : decode b_M_upTo 6 = .ok (.if_icmp .gt 7, 3) := by decide +kernel
theorem d_M_upTo_9 : decode b_M_upTo 9 = .ok (.iconst 1, 1) := by decide +kernel
theorem d_M_upTo_10 : decode b_M_upTo 10 = .ok (.goto 4, 3) := by decide +kernel
theorem d_M_upTo_13 : decode b_M_upTo 13 = .ok (.iconst 0, 1) := by decide +kernel
theorem d_M_upTo_14 : decode b_M_upTo 14 = .ok (.ireturn, 1) := by decide +kernel
theorem d_M_isKiosk_0 : decode b_M_isKiosk 0 = .ok (.iload_n 0, 1) := by decide +kernel
theorem d_M_isKiosk_1 : decode b_M_isKiosk 1 = .ok (.bipush 7, 2) := by decide +kernel
theorem d_M_isKiosk_3 : decode b_M_isKiosk 3 = .ok (.invokestatic 108, 3) := by decide +kernel
theorem d_M_isKiosk_6 : decode b_M_isKiosk 6 = .ok (.ireturn, 1) := by decide +kernel
theorem d_M_isBus_0 : decode b_M_isBus 0 = .ok (.iload_n 0, 1) := by decide +kernel
theorem d_M_isBus_1 : decode b_M_isBus 1 = .ok (.bipush 8, 2) := by decide +kernel
theorem d_M_isBus_3 : decode b_M_isBus 3 = .ok (.if_icmp .lt 13, 3) := by decide +kernel
theorem d_M_isBus_6 : decode b_M_isBus 6 = .ok (.iload_n 0, 1) := by decide +kernel
theorem d_M_isBus_7 : decode b_M_isBus 7 = .ok (.bipush 11, 2) := by decide +kernel
theorem d_M_isBus_9 : decode b_M_isBus 9 = .ok (.if_icmp .gt 7, 3) := by decide +kernel
theorem d_M_isBus_12 : decode b_M_isBus 12 = .ok (.iconst 1, 1) := by decide +kernel
theorem d_M_isBus_13 : decode b_M_isBus 13 = .ok (.goto 4, 3) := by decide +kernel
theorem d_M_isBus_16 : decode b_M_isBus 16 = .ok (.iconst 0, 1) := by decide +kernel
theorem d_M_isBus_17 : decode b_M_isBus 17 = .ok (.ireturn, 1) := by decide +kernel
theorem d_M_isLetter_0 : decode b_M_isLetter 0 = .ok (.iload_n 1, 1) := by decide +kernel
theorem d_M_isLetter_1 : decode b_M_isLetter 1 = .ok (.ifCond .lt 15, 3) := by decide +kernel
theorem d_M_isLetter_4 : decode b_M_isLetter 4 = .ok (.iload_n 1, 1) := by decide +kernel
theorem d_M_isLetter_5 : decode b_M_isLetter 5 = .ok (.aload_n 0, 1) := by decide +kernel
theorem d_M_isLetter_6 : decode b_M_isLetter 6 = .ok (.getfield 112, 3) := by decide +kernel
theorem d_M_isLetter_9 : decode b_M_isLetter 9 = .ok (.if_icmp .ge 7, 3) := by decide +kernel
theorem d_M_isLetter_12 : decode b_M_isLetter 12 = .ok (.iconst 1, 1) := by decide +kernel
theorem d_M_isLetter_13 : decode b_M_isLetter 13 = .ok (.goto 4, 3) := by decide +kernel
theorem d_M_isLetter_16 : decode b_M_isLetter 16 = .ok (.iconst 0, 1) := by decide +kernel
theorem d_M_isLetter_17 : decode b_M_isLetter 17 = .ok (.ireturn, 1) := by decide +kernel
theorem d_M_stopAt_0 : decode b_M_stopAt 0 = .ok (.sipush 168, 3) := by decide +kernel
theorem d_M_stopAt_3 : decode b_M_stopAt 3 = .ok (.istore_n 3, 1) := by decide +kernel
theorem d_M_stopAt_4 : decode b_M_stopAt 4 = .ok (.iload_n 3, 1) := by decide +kernel
theorem d_M_stopAt_5 : decode b_M_stopAt 5 = .ok (.sipush 168, 3) := by decide +kernel
theorem d_M_stopAt_8 : decode b_M_stopAt 8 = .ok (.aload_n 0, 1) := by decide +kernel
theorem d_M_stopAt_9 : decode b_M_stopAt 9 = .ok (.getfield 19, 3) := by decide +kernel
theorem d_M_stopAt_12 : decode b_M_stopAt 12 = .ok (.bipush 7, 2) := by decide +kernel
theorem d_M_stopAt_14 : decode b_M_stopAt 14 = .ok (.iaload, 1) := by decide +kernel
theorem d_M_stopAt_15 : decode b_M_stopAt 15 = .ok (.iadd, 1) := by decide +kernel
theorem d_M_stopAt_16 : decode b_M_stopAt 16 = .ok (.if_icmp .ge 31, 3) := by decide +kernel
theorem d_M_stopAt_19 : decode b_M_stopAt 19 = .ok (.aload_n 0, 1) := by decide +kernel
theorem d_M_stopAt_20 : decode b_M_stopAt 20 = .ok (.getfield 7, 3) := by decide +kernel
theorem d_M_stopAt_23 : decode b_M_stopAt 23 = .ok (.iload_n 3, 1) := by decide +kernel
theorem d_M_stopAt_24 : decode b_M_stopAt 24 = .ok (.iaload, 1) := by decide +kernel
theorem d_M_stopAt_25 : decode b_M_stopAt 25 = .ok (.iload_n 1, 1) := by decide +kernel
theorem d_M_stopAt_26 : decode b_M_stopAt 26 = .ok (.if_icmp .ne 15, 3) := by decide +kernel
theorem d_M_stopAt_29 : decode b_M_stopAt 29 = .ok (.aload_n 0, 1) := by decide +kernel
theorem d_M_stopAt_30 : decode b_M_stopAt 30 = .ok (.getfield 16, 3) := by decide +kernel
theorem d_M_stopAt_33 : decode b_M_stopAt 33 = .ok (.iload_n 3, 1) := by decide +kernel
theorem d_M_stopAt_34 : decode b_M_stopAt 34 = .ok (.iaload, 1) := by decide +kernel
theorem d_M_stopAt_35 : decode b_M_stopAt 35 = .ok (.iload_n 2, 1) := by decide +kernel
theorem d_M_stopAt_36 : decode b_M_stopAt 36 = .ok (.if_icmp .ne 5, 3) := by decide +kernel
theorem d_M_stopAt_39 : decode b_M_stopAt 39 = .ok (.iload_n 3, 1) := by decide +kernel
theorem d_M_stopAt_40 : decode b_M_stopAt 40 = .ok (.ireturn, 1) := by decide +kernel
theorem d_M_stopAt_41 : decode b_M_stopAt 41 = .ok (.iinc 3 1, 3) := by decide +kernel
theorem d_M_stopAt_44 : decode b_M_stopAt 44 = .ok (.goto (-40), 3) := by decide +kernel
theorem d_M_stopAt_47 : decode b_M_stopAt 47 = .ok (.iconst (-1), 1) := by decide +kernel
theorem d_M_stopAt_48 : decode b_M_stopAt 48 = .ok (.ireturn, 1) := by decide +kernel
theorem d_M_copyStop_0 : decode b_M_copyStop 0 = .ok (.aload_n 0, 1) := by decide +kernel
theorem d_M_copyStop_1 : decode b_M_copyStop 1 = .ok (.getfield 7, 3) := by decide +kernel
theorem d_M_copyStop_4 : decode b_M_copyStop 4 = .ok (.iload_n 2, 1) := by decide +kernel
theorem d_M_copyStop_5 : decode b_M_copyStop 5 = .ok (.aload_n 0, 1) := by decide +kernel
theorem d_M_copyStop_6 : decode b_M_copyStop 6 = .ok (.getfield 7, 3) := by decide +kernel
theorem d_M_copyStop_9 : decode b_M_copyStop 9 = .ok (.iload_n 1, 1) := by decide +kernel
theorem d_M_copyStop_10 : decode b_M_copyStop 10 = .ok (.iaload, 1) := by decide +kernel
theorem d_M_copyStop_11 : decode b_M_copyStop 11 = .ok (.iastore, 1) := by decide +kernel
theorem d_M_copyStop_12 : decode b_M_copyStop 12 = .ok (.aload_n 0, 1) := by decide +kernel
theorem d_M_copyStop_13 : decode b_M_copyStop 13 = .ok (.getfield 13, 3) := by decide +kernel
theorem d_M_copyStop_16 : decode b_M_copyStop 16 = .ok (.iload_n 2, 1) := by decide +kernel
theorem d_M_copyStop_17 : decode b_M_copyStop 17 = .ok (.aload_n 0, 1) := by decide +kernel
theorem d_M_copyStop_18 : decode b_M_copyStop 18 = .ok (.getfield 13, 3) := by decide +kernel
theorem d_M_copyStop_21 : decode b_M_copyStop 21 = .ok (.iload_n 1, 1) := by decide +kernel
theorem d_M_copyStop_22 : decode b_M_copyStop 22 = .ok (.iaload, 1) := by decide +kernel
theorem d_M_copyStop_23 : decode b_M_copyStop 23 = .ok (.iastore, 1) := by decide +kernel
theorem d_M_copyStop_24 : decode b_M_copyStop 24 = .ok (.aload_n 0, 1) := by decide +kernel
theorem d_M_copyStop_25 : decode b_M_copyStop 25 = .ok (.getfield 16, 3) := by decide +kernel
theorem d_M_copyStop_28 : decode b_M_copyStop 28 = .ok (.iload_n 2, 1) := by decide +kernel
theorem d_M_copyStop_29 : decode b_M_copyStop 29 = .ok (.aload_n 0, 1) := by decide +kernel
theorem d_M_copyStop_30 : decode b_M_copyStop 30 = .ok (.getfield 16, 3) := by decide +kernel
theorem d_M_copyStop_33 : decode b_M_copyStop 33 = .ok (.iload_n 1, 1) := by decide +kernel
theorem d_M_copyStop_34 : decode b_M_copyStop 34 = .ok (.iaload, 1) := by decide +kernel
theorem d_M_copyStop_35 : decode b_M_copyStop 35 = .ok (.iastore, 1) := by decide +kernel
theorem d_M_copyStop_36 : decode b_M_copyStop 36 = .ok (.return_, 1) := by decide +kernel
theorem d_M_stop_0 : decode b_M_stop 0 = .ok (.iload_n 1, 1) := by decide +kernel
theorem d_M_stop_1 : decode b_M_stop 1 = .ok (.invokestatic 115, 3) := by decide +kernel
theorem d_M_stop_4 : decode b_M_stop 4 = .ok (.ifCond .eq 24, 3) := by decide +kernel
theorem d_M_stop_7 : decode b_M_stop 7 = .ok (.iload_n 2, 1) := by decide +kernel
theorem d_M_stop_8 : decode b_M_stop 8 = .ok (.invokestatic 119, 3) := by decide +kernel
theorem d_M_stop_11 : decode b_M_stop 11 = .ok (.ifCond .eq 17, 3) := by decide +kernel
theorem d_M_stop_14 : decode b_M_stop 14 = .ok (.iload_n 3, 1) := by decide +kernel
theorem d_M_stop_15 : decode b_M_stop 15 = .ok (.sipush 10079, 3) := by decide +kernel
theorem d_M_stop_18 : decode b_M_stop 18 = .ok (.invokestatic 108, 3) := by decide +kernel
theorem d_M_stop_21 : decode b_M_stop 21 = .ok (.ifCond .eq 7, 3) := by decide +kernel
theorem d_M_stop_24 : decode b_M_stop 24 = .ok (.iconst 1, 1) := by decide +kernel
theorem d_M_stop_25 : decode b_M_stop 25 = .ok (.goto 4, 3) := by decide +kernel
theorem d_M_stop_28 : decode b_M_stop 28 = .ok (.iconst 0, 1) := by decide +kernel
theorem d_M_stop_29 : decode b_M_stop 29 = .ok (.istore 4, 2) := by decide +kernel
theorem d_M_stop_31 : decode b_M_stop 31 = .ok (.aload_n 0, 1) := by decide +kernel
theorem d_M_stop_32 : decode b_M_stop 32 = .ok (.iload 4, 2) := by decide +kernel
theorem d_M_stop_34 : decode b_M_stop 34 = .ok (.ifCond .ne 7, 3) := by decide +kernel
theorem d_M_stop_37 : decode b_M_stop 37 = .ok (.iconst 1, 1) := by decide +kernel
theorem d_M_stop_38 : decode b_M_stop 38 = .ok (.goto 29, 3) := by decide +kernel
theorem d_M_stop_41 : decode b_M_stop 41 = .ok (.aload_n 0, 1) := by decide +kernel
theorem d_M_stop_42 : decode b_M_stop 42 = .ok (.iload_n 1, 1) := by decide +kernel
theorem d_M_stop_43 : decode b_M_stop 43 = .ok (.iload_n 3, 1) := by decide +kernel
theorem d_M_stop_44 : decode b_M_stop 44 = .ok (.invokevirtual 122, 3) := by decide +kernel
theorem d_M_stop_47 : decode b_M_stop 47 = .ok (.ifCond .ge 15, 3) := by decide +kernel
theorem d_M_stop_50 : decode b_M_stop 50 = .ok (.aload_n 0, 1) := by decide +kernel
theorem d_M_stop_51 : decode b_M_stop 51 = .ok (.getfield 19, 3) := by decide +kernel
theorem d_M_stop_54 : decode b_M_stop 54 = .ok (.bipush 7, 2) := by decide +kernel
theorem d_M_stop_56 : decode b_M_stop 56 = .ok (.iaload, 1) := by decide +kernel
theorem d_M_stop_57 : decode b_M_stop 57 = .ok (.bipush 24, 2) := by decide +kernel
theorem d_M_stop_59 : decode b_M_stop 59 = .ok (.if_icmp .ne 7, 3) := by decide +kernel
theorem d_M_stop_62 : decode b_M_stop 62 = .ok (.iconst 2, 1) := by decide +kernel
theorem d_M_stop_63 : decode b_M_stop 63 = .ok (.goto 4, 3) := by decide +kernel
theorem d_M_stop_66 : decode b_M_stop 66 = .ok (.iconst 0, 1) := by decide +kernel
theorem d_M_stop_67 : decode b_M_stop 67 = .ok (.putfield 104, 3) := by decide +kernel
theorem d_M_stop_70 : decode b_M_stop 70 = .ok (.aload_n 0, 1) := by decide +kernel
theorem d_M_stop_71 : decode b_M_stop 71 = .ok (.getfield 104, 3) := by decide +kernel
theorem d_M_stop_74 : decode b_M_stop 74 = .ok (.ifCond .eq 5, 3) := by decide +kernel
theorem d_M_stop_77 : decode b_M_stop 77 = .ok (.iconst 0, 1) := by decide +kernel
theorem d_M_stop_78 : decode b_M_stop 78 = .ok (.ireturn, 1) := by decide +kernel
theorem d_M_stop_79 : decode b_M_stop 79 = .ok (.sipush 168, 3) := by decide +kernel
theorem d_M_stop_82 : decode b_M_stop 82 = .ok (.aload_n 0, 1) := by decide +kernel
theorem d_M_stop_83 : decode b_M_stop 83 = .ok (.getfield 19, 3) := by decide +kernel
theorem d_M_stop_86 : decode b_M_stop 86 = .ok (.bipush 7, 2) := by decide +kernel
theorem d_M_stop_88 : decode b_M_stop 88 = .ok (.iaload, 1) := by decide +kernel
theorem d_M_stop_89 : decode b_M_stop 89 = .ok (.iadd, 1) := by decide +kernel
theorem d_M_stop_90 : decode b_M_stop 90 = .ok (.istore 5, 2) := by decide +kernel
theorem d_M_stop_92 : decode b_M_stop 92 = .ok (.aload_n 0, 1) := by decide +kernel
theorem d_M_stop_93 : decode b_M_stop 93 = .ok (.getfield 7, 3) := by decide +kernel
theorem d_M_stop_96 : decode b_M_stop 96 = .ok (.iload 5, 2) := by decide +kernel
theorem d_M_stop_98 : decode b_M_stop 98 = .ok (.iload_n 1, 1) := by decide +kernel
theorem d_M_stop_99 : decode b_M_stop 99 = .ok (.iastore, 1) := by decide +kernel
theorem d_M_stop_100 : decode b_M_stop 100 = .ok (.aload_n 0, 1) := by decide +kernel
theorem d_M_stop_101 : decode b_M_stop 101 = .ok (.getfield 13, 3) := by decide +kernel
theorem d_M_stop_104 : decode b_M_stop 104 = .ok (.iload 5, 2) := by decide +kernel
theorem d_M_stop_106 : decode b_M_stop 106 = .ok (.iload_n 2, 1) := by decide +kernel
theorem d_M_stop_107 : decode b_M_stop 107 = .ok (.iastore, 1) := by decide +kernel
theorem d_M_stop_108 : decode b_M_stop 108 = .ok (.aload_n 0, 1) := by decide +kernel
theorem d_M_stop_109 : decode b_M_stop 109 = .ok (.getfield 16, 3) := by decide +kernel
theorem d_M_stop_112 : decode b_M_stop 112 = .ok (.iload 5, 2) := by decide +kernel
theorem d_M_stop_114 : decode b_M_stop 114 = .ok (.iload_n 3, 1) := by decide +kernel
theorem d_M_stop_115 : decode b_M_stop 115 = .ok (.iastore, 1) := by decide +kernel
theorem d_M_stop_116 : decode b_M_stop 116 = .ok (.aload_n 0, 1) := by decide +kernel
theorem d_M_stop_117 : decode b_M_stop 117 = .ok (.getfield 19, 3) := by decide +kernel
theorem d_M_stop_120 : decode b_M_stop 120 = .ok (.bipush 7, 2) := by decide +kernel
theorem d_M_stop_122 : decode b_M_stop 122 = .ok (.dup2, 1) := by decide +kernel
theorem d_M_stop_123 : decode b_M_stop 123 = .ok (.iaload, 1) := by decide +kernel
theorem d_M_stop_124 : decode b_M_stop 124 = .ok (.iconst 1, 1) := by decide +kernel
theorem d_M_stop_125 : decode b_M_stop 125 = .ok (.iadd, 1) := by decide +kernel
theorem d_M_stop_126 : decode b_M_stop 126 = .ok (.iastore, 1) := by decide +kernel
theorem d_M_stop_127 : decode b_M_stop 127 = .ok (.aload_n 0, 1) := by decide +kernel
theorem d_M_stop_128 : decode b_M_stop 128 = .ok (.getfield 19, 3) := by decide +kernel
theorem d_M_stop_131 : decode b_M_stop 131 = .ok (.bipush 7, 2) := by decide +kernel
theorem d_M_stop_133 : decode b_M_stop 133 = .ok (.iaload, 1) := by decide +kernel
theorem d_M_stop_134 : decode b_M_stop 134 = .ok (.ireturn, 1) := by decide +kernel
theorem d_M_cancel_0 : decode b_M_cancel 0 = .ok (.aload_n 0, 1) := by decide +kernel
theorem d_M_cancel_1 : decode b_M_cancel 1 = .ok (.iconst 0, 1) := by decide +kernel
theorem d_M_cancel_2 : decode b_M_cancel 2 = .ok (.putfield 104, 3) := by decide +kernel
theorem d_M_cancel_5 : decode b_M_cancel 5 = .ok (.aload_n 0, 1) := by decide +kernel
theorem d_M_cancel_6 : decode b_M_cancel 6 = .ok (.iload_n 1, 1) := by decide +kernel
theorem d_M_cancel_7 : decode b_M_cancel 7 = .ok (.iload_n 2, 1) := by decide +kernel
theorem d_M_cancel_8 : decode b_M_cancel 8 = .ok (.invokevirtual 122, 3) := by decide +kernel
theorem d_M_cancel_11 : decode b_M_cancel 11 = .ok (.istore_n 3, 1) := by decide +kernel
theorem d_M_cancel_12 : decode b_M_cancel 12 = .ok (.iload_n 3, 1) := by decide +kernel
theorem d_M_cancel_13 : decode b_M_cancel 13 = .ok (.ifCond .ge 5, 3) := by decide +kernel
theorem d_M_cancel_16 : decode b_M_cancel 16 = .ok (.iconst 0, 1) := by decide +kernel
theorem d_M_cancel_17 : decode b_M_cancel 17 = .ok (.ireturn, 1) := by decide +kernel
theorem d_M_cancel_18 : decode b_M_cancel 18 = .ok (.aload_n 0, 1) := by decide +kernel
theorem d_M_cancel_19 : decode b_M_cancel 19 = .ok (.getfield 19, 3) := by decide +kernel
theorem d_M_cancel_22 : decode b_M_cancel 22 = .ok (.bipush 7, 2) := by decide +kernel
theorem d_M_cancel_24 : decode b_M_cancel 24 = .ok (.dup2, 1) := by decide +kernel
theorem d_M_cancel_25 : decode b_M_cancel 25 = .ok (.iaload, 1) := by decide +kernel
theorem d_M_cancel_26 : decode b_M_cancel 26 = .ok (.iconst 1, 1) := by decide +kernel
theorem d_M_cancel_27 : decode b_M_cancel 27 = .ok (.isub, 1) := by decide +kernel
theorem d_M_cancel_28 : decode b_M_cancel 28 = .ok (.iastore, 1) := by decide +kernel
theorem d_M_cancel_29 : decode b_M_cancel 29 = .ok (.aload_n 0, 1) := by decide +kernel
theorem d_M_cancel_30 : decode b_M_cancel 30 = .ok (.sipush 168, 3) := by decide +kernel
theorem d_M_cancel_33 : decode b_M_cancel 33 = .ok (.aload_n 0, 1) := by decide +kernel
theorem d_M_cancel_34 : decode b_M_cancel 34 = .ok (.getfield 19, 3) := by decide +kernel
theorem d_M_cancel_37 : decode b_M_cancel 37 = .ok (.bipush 7, 2) := by decide +kernel
theorem d_M_cancel_39 : decode b_M_cancel 39 = .ok (.iaload, 1) := by decide +kernel
theorem d_M_cancel_40 : decode b_M_cancel 40 = .ok (.iadd, 1) := by decide +kernel
theorem d_M_cancel_41 : decode b_M_cancel 41 = .ok (.iload_n 3, 1) := by decide +kernel
theorem d_M_cancel_42 : decode b_M_cancel 42 = .ok (.invokevirtual 126, 3) := by decide +kernel
theorem d_M_cancel_45 : decode b_M_cancel 45 = .ok (.iconst 1, 1) := by decide +kernel
theorem d_M_cancel_46 : decode b_M_cancel 46 = .ok (.ireturn, 1) := by decide +kernel
theorem d_M_publish_0 : decode b_M_publish 0 = .ok (.aload_n 0, 1) := by decide +kernel
theorem d_M_publish_1 : decode b_M_publish 1 = .ok (.aload_n 0, 1) := by decide +kernel
theorem d_M_publish_2 : decode b_M_publish 2 = .ok (.getfield 130, 3) := by decide +kernel
theorem d_M_publish_5 : decode b_M_publish 5 = .ok (.bipush 6, 2) := by decide +kernel
theorem d_M_publish_7 : decode b_M_publish 7 = .ok (.if_icmp .ne 7, 3) := by decide +kernel
theorem d_M_publish_10 : decode b_M_publish 10 = .ok (.iconst 2, 1) := by decide +kernel
theorem d_M_publish_11 : decode b_M_publish 11 = .ok (.goto 4, 3) := by decide +kernel
theorem d_M_publish_14 : decode b_M_publish 14 = .ok (.iconst 0, 1) := by decide +kernel
theorem d_M_publish_15 : decode b_M_publish 15 = .ok (.putfield 104, 3) := by decide +kernel
theorem d_M_publish_18 : decode b_M_publish 18 = .ok (.aload_n 0, 1) := by decide +kernel
theorem d_M_publish_19 : decode b_M_publish 19 = .ok (.getfield 104, 3) := by decide +kernel
theorem d_M_publish_22 : decode b_M_publish 22 = .ok (.ifCond .eq 10, 3) := by decide +kernel
theorem d_M_publish_25 : decode b_M_publish 25 = .ok (.aload_n 0, 1) := by decide +kernel
theorem d_M_publish_26 : decode b_M_publish 26 = .ok (.iconst 1, 1) := by decide +kernel
theorem d_M_publish_27 : decode b_M_publish 27 = .ok (.putfield 104, 3) := by decide +kernel
theorem d_M_publish_30 : decode b_M_publish 30 = .ok (.iconst 0, 1) := by decide +kernel
theorem d_M_publish_31 : decode b_M_publish 31 = .ok (.ireturn, 1) := by decide +kernel
theorem d_M_publish_32 : decode b_M_publish 32 = .ok (.aload_n 0, 1) := by decide +kernel
theorem d_M_publish_33 : decode b_M_publish 33 = .ok (.dup, 1) := by decide +kernel
theorem d_M_publish_34 : decode b_M_publish 34 = .ok (.getfield 130, 3) := by decide +kernel
theorem d_M_publish_37 : decode b_M_publish 37 = .ok (.iconst 1, 1) := by decide +kernel
theorem d_M_publish_38 : decode b_M_publish 38 = .ok (.iadd, 1) := by decide +kernel
theorem d_M_publish_39 : decode b_M_publish 39 = .ok (.putfield 130, 3) := by decide +kernel
theorem d_M_publish_42 : decode b_M_publish 42 = .ok (.aload_n 0, 1) := by decide +kernel
theorem d_M_publish_43 : decode b_M_publish 43 = .ok (.getfield 19, 3) := by decide +kernel
theorem d_M_publish_46 : decode b_M_publish 46 = .ok (.aload_n 0, 1) := by decide +kernel
theorem d_M_publish_47 : decode b_M_publish 47 = .ok (.getfield 130, 3) := by decide +kernel
theorem d_M_publish_50 : decode b_M_publish 50 = .ok (.aload_n 0, 1) := by decide +kernel
theorem d_M_publish_51 : decode b_M_publish 51 = .ok (.getfield 19, 3) := by decide +kernel
theorem d_M_publish_54 : decode b_M_publish 54 = .ok (.bipush 7, 2) := by decide +kernel
theorem d_M_publish_56 : decode b_M_publish 56 = .ok (.iaload, 1) := by decide +kernel
theorem d_M_publish_57 : decode b_M_publish 57 = .ok (.iastore, 1) := by decide +kernel
theorem d_M_publish_58 : decode b_M_publish 58 = .ok (.iconst 0, 1) := by decide +kernel
theorem d_M_publish_59 : decode b_M_publish 59 = .ok (.istore_n 1, 1) := by decide +kernel
theorem d_M_publish_60 : decode b_M_publish 60 = .ok (.iload_n 1, 1) := by decide +kernel
theorem d_M_publish_61 : decode b_M_publish 61 = .ok (.aload_n 0, 1) := by decide +kernel
theorem d_M_publish_62 : decode b_M_publish 62 = .ok (.getfield 19, 3) := by decide +kernel
theorem d_M_publish_65 : decode b_M_publish 65 = .ok (.bipush 7, 2) := by decide +kernel
theorem d_M_publish_67 : decode b_M_publish 67 = .ok (.iaload, 1) := by decide +kernel
theorem d_M_publish_68 : decode b_M_publish 68 = .ok (.if_icmp .ge 27, 3) := by decide +kernel
theorem d_M_publish_71 : decode b_M_publish 71 = .ok (.aload_n 0, 1) := by decide +kernel
theorem d_M_publish_72 : decode b_M_publish 72 = .ok (.sipush 168, 3) := by decide +kernel
theorem d_M_publish_75 : decode b_M_publish 75 = .ok (.iload_n 1, 1) := by decide +kernel
theorem d_M_publish_76 : decode b_M_publish 76 = .ok (.iadd, 1) := by decide +kernel
theorem d_M_publish_77 : decode b_M_publish 77 = .ok (.bipush 24, 2) := by decide +kernel
theorem d_M_publish_79 : decode b_M_publish 79 = .ok (.aload_n 0, 1) := by decide +kernel
theorem d_M_publish_80 : decode b_M_publish 80 = .ok (.getfield 130, 3) := by decide +kernel
theorem d_M_publish_83 : decode b_M_publish 83 = .ok (.imul, 1) := by decide +kernel
theorem d_M_publish_84 : decode b_M_publish 84 = .ok (.iload_n 1, 1) := by decide +kernel
theorem d_M_publish_85 : decode b_M_publish 85 = .ok (.iadd, 1) := by decide +kernel
theorem d_M_publish_86 : decode b_M_publish 86 = .ok (.invokevirtual 126, 3) := by decide +kernel
theorem d_M_publish_89 : decode b_M_publish 89 = .ok (.iinc 1 1, 3) := by decide +kernel
theorem d_M_publish_92 : decode b_M_publish 92 = .ok (.goto (-32), 3) := by decide +kernel
theorem d_M_publish_95 : decode b_M_publish 95 = .ok (.aload_n 0, 1) := by decide +kernel
theorem d_M_publish_96 : decode b_M_publish 96 = .ok (.getfield 22, 3) := by decide +kernel
theorem d_M_publish_99 : decode b_M_publish 99 = .ok (.iconst 0, 1) := by decide +kernel
theorem d_M_publish_100 : decode b_M_publish 100 = .ok (.aload_n 0, 1) := by decide +kernel
theorem d_M_publish_101 : decode b_M_publish 101 = .ok (.getfield 130, 3) := by decide +kernel
theorem d_M_publish_104 : decode b_M_publish 104 = .ok (.iastore, 1) := by decide +kernel
theorem d_M_publish_105 : decode b_M_publish 105 = .ok (.aload_n 0, 1) := by decide +kernel
theorem d_M_publish_106 : decode b_M_publish 106 = .ok (.getfield 130, 3) := by decide +kernel
theorem d_M_publish_109 : decode b_M_publish 109 = .ok (.ireturn, 1) := by decide +kernel
theorem d_M_nextStop_0 : decode b_M_nextStop 0 = .ok (.ldc 133, 2) := by decide +kernel
theorem d_M_nextStop_2 : decode b_M_nextStop 2 = .ok (.istore_n 3, 1) := by decide +kernel
theorem d_M_nextStop_3 : decode b_M_nextStop 3 = .ok (.bipush 24, 2) := by decide +kernel
theorem d_M_nextStop_5 : decode b_M_nextStop 5 = .ok (.iload_n 1, 1) := by decide +kernel
theorem d_M_nextStop_6 : decode b_M_nextStop 6 = .ok (.imul, 1) := by decide +kernel
theorem d_M_nextStop_7 : decode b_M_nextStop 7 = .ok (.istore 4, 2) := by decide +kernel
theorem d_M_nextStop_9 : decode b_M_nextStop 9 = .ok (.iload 4, 2) := by decide +kernel
theorem d_M_nextStop_11 : decode b_M_nextStop 11 = .ok (.bipush 24, 2) := by decide +kernel
theorem d_M_nextStop_13 : decode b_M_nextStop 13 = .ok (.iload_n 1, 1) := by decide +kernel
theorem d_M_nextStop_14 : decode b_M_nextStop 14 = .ok (.imul, 1) := by decide +kernel
theorem d_M_nextStop_15 : decode b_M_nextStop 15 = .ok (.aload_n 0, 1) := by decide +kernel
theorem d_M_nextStop_16 : decode b_M_nextStop 16 = .ok (.getfield 19, 3) := by decide +kernel
theorem d_M_nextStop_19 : decode b_M_nextStop 19 = .ok (.iload_n 1, 1) := by decide +kernel
theorem d_M_nextStop_20 : decode b_M_nextStop 20 = .ok (.iaload, 1) := by decide +kernel
theorem d_M_nextStop_21 : decode b_M_nextStop 21 = .ok (.iadd, 1) := by decide +kernel
theorem d_M_nextStop_22 : decode b_M_nextStop 22 = .ok (.if_icmp .ge 45, 3) := by decide +kernel
theorem d_M_nextStop_25 : decode b_M_nextStop 25 = .ok (.aload_n 0, 1) := by decide +kernel
theorem d_M_nextStop_26 : decode b_M_nextStop 26 = .ok (.getfield 16, 3) := by decide +kernel
theorem d_M_nextStop_29 : decode b_M_nextStop 29 = .ok (.iload 4, 2) := by decide +kernel
theorem d_M_nextStop_31 : decode b_M_nextStop 31 = .ok (.iaload, 1) := by decide +kernel
theorem d_M_nextStop_32 : decode b_M_nextStop 32 = .ok (.iload_n 2, 1) := by decide +kernel
theorem d_M_nextStop_33 : decode b_M_nextStop 33 = .ok (.sipush 10080, 3) := by decide +kernel
theorem d_M_nextStop_36 : decode b_M_nextStop 36 = .ok (.irem, 1) := by decide +kernel
theorem d_M_nextStop_37 : decode b_M_nextStop 37 = .ok (.isub, 1) := by decide +kernel
theorem d_M_nextStop_38 : decode b_M_nextStop 38 = .ok (.sipush 10080, 3) := by decide +kernel
theorem d_M_nextStop_41 : decode b_M_nextStop 41 = .ok (.iadd, 1) := by decide +kernel
theorem d_M_nextStop_42 : decode b_M_nextStop 42 = .ok (.sipush 10080, 3) := by decide +kernel
theorem d_M_nextStop_45 : decode b_M_nextStop 45 = .ok (.irem, 1) := by decide +kernel
theorem d_M_nextStop_46 : decode b_M_nextStop 46 = .ok (.istore 5, 2) := by decide +kernel
theorem d_M_nextStop_48 : decode b_M_nextStop 48 = .ok (.iload_n 2, 1) := by decide +kernel
theorem d_M_nextStop_49 : decode b_M_nextStop 49 = .ok (.iload 5, 2) := by decide +kernel
theorem d_M_nextStop_51 : decode b_M_nextStop 51 = .ok (.iadd, 1) := by decide +kernel
theorem d_M_nextStop_52 : decode b_M_nextStop 52 = .ok (.iload_n 3, 1) := by decide +kernel
theorem d_M_nextStop_53 : decode b_M_nextStop 53 = .ok (.if_icmp .ge 8, 3) := by decide +kernel
theorem d_M_nextStop_56 : decode b_M_nextStop 56 = .ok (.iload_n 2, 1) := by decide +kernel
theorem d_M_nextStop_57 : decode b_M_nextStop 57 = .ok (.iload 5, 2) := by decide +kernel
theorem d_M_nextStop_59 : decode b_M_nextStop 59 = .ok (.iadd, 1) := by decide +kernel
theorem d_M_nextStop_60 : decode b_M_nextStop 60 = .ok (.istore_n 3, 1) := by decide +kernel
theorem d_M_nextStop_61 : decode b_M_nextStop 61 = .ok (.iinc 4 1, 3) := by decide +kernel
theorem d_M_nextStop_64 : decode b_M_nextStop 64 = .ok (.goto (-55), 3) := by decide +kernel
theorem d_M_nextStop_67 : decode b_M_nextStop 67 = .ok (.iload_n 3, 1) := by decide +kernel
theorem d_M_nextStop_68 : decode b_M_nextStop 68 = .ok (.ireturn, 1) := by decide +kernel
theorem d_M_passes_0 : decode b_M_passes 0 = .ok (.iconst 0, 1) := by decide +kernel
theorem d_M_passes_1 : decode b_M_passes 1 = .ok (.istore 4, 2) := by decide +kernel
theorem d_M_passes_3 : decode b_M_passes 3 = .ok (.bipush 24, 2) := by decide +kernel
theorem d_M_passes_5 : decode b_M_passes 5 = .ok (.iload_n 1, 1) := by decide +kernel
theorem d_M_passes_6 : decode b_M_passes 6 = .ok (.imul, 1) := by decide +kernel
theorem d_M_passes_7 : decode b_M_passes 7 = .ok (.istore 5, 2) := by decide +kernel
theorem d_M_passes_9 : decode b_M_passes 9 = .ok (.iload 5, 2) := by decide +kernel
theorem d_M_passes_11 : decode b_M_passes 11 = .ok (.bipush 24, 2) := by decide +kernel
theorem d_M_passes_13 : decode b_M_passes 13 = .ok (.iload_n 1, 1) := by decide +kernel
theorem d_M_passes_14 : decode b_M_passes 14 = .ok (.imul, 1) := by decide +kernel
theorem d_M_passes_15 : decode b_M_passes 15 = .ok (.aload_n 0, 1) := by decide +kernel
theorem d_M_passes_16 : decode b_M_passes 16 = .ok (.getfield 19, 3) := by decide +kernel
theorem d_M_passes_19 : decode b_M_passes 19 = .ok (.iload_n 1, 1) := by decide +kernel
theorem d_M_passes_20 : decode b_M_passes 20 = .ok (.iaload, 1) := by decide +kernel
theorem d_M_passes_21 : decode b_M_passes 21 = .ok (.iadd, 1) := by decide +kernel
theorem d_M_passes_22 : decode b_M_passes 22 = .ok (.if_icmp .ge 109, 3) := by decide +kernel
theorem d_M_passes_25 : decode b_M_passes 25 = .ok (.aload_n 0, 1) := by decide +kernel
theorem d_M_passes_26 : decode b_M_passes 26 = .ok (.getfield 16, 3) := by decide +kernel
theorem d_M_passes_29 : decode b_M_passes 29 = .ok (.iload 5, 2) := by decide +kernel
theorem d_M_passes_31 : decode b_M_passes 31 = .ok (.iaload, 1) := by decide +kernel
theorem d_M_passes_32 : decode b_M_passes 32 = .ok (.iload_n 2, 1) := by decide +kernel
theorem d_M_passes_33 : decode b_M_passes 33 = .ok (.sipush 10080, 3) := by decide +kernel
theorem d_M_passes_36 : decode b_M_passes 36 = .ok (.irem, 1) := by decide +kernel
theorem d_M_passes_37 : decode b_M_passes 37 = .ok (.if_icmp .ne 88, 3) := by decide +kernel
theorem d_M_passes_40 : decode b_M_passes 40 = .ok (.aload_n 0, 1) := by decide +kernel
theorem d_M_passes_41 : decode b_M_passes 41 = .ok (.getfield 7, 3) := by decide +kernel
theorem d_M_passes_44 : decode b_M_passes 44 = .ok (.iload 5, 2) := by decide +kernel
theorem d_M_passes_46 : decode b_M_passes 46 = .ok (.iaload, 1) := by decide +kernel
theorem d_M_passes_47 : decode b_M_passes 47 = .ok (.bipush 8, 2) := by decide +kernel
theorem d_M_passes_49 : decode b_M_passes 49 = .ok (.isub, 1) := by decide +kernel
theorem d_M_passes_50 : decode b_M_passes 50 = .ok (.istore 6, 2) := by decide +kernel
theorem d_M_passes_52 : decode b_M_passes 52 = .ok (.aload_n 0, 1) := by decide +kernel
theorem d_M_passes_53 : decode b_M_passes 53 = .ok (.getfield 13, 3) := by decide +kernel
theorem d_M_passes_56 : decode b_M_passes 56 = .ok (.iload 5, 2) := by decide +kernel
theorem d_M_passes_58 : decode b_M_passes 58 = .ok (.iaload, 1) := by decide +kernel
theorem d_M_passes_59 : decode b_M_passes 59 = .ok (.istore 7, 2) := by decide +kernel
theorem d_M_passes_61 : decode b_M_passes 61 = .ok (.aload_n 0, 1) := by decide +kernel
theorem d_M_passes_62 : decode b_M_passes 62 = .ok (.getfield 92, 3) := by decide +kernel
theorem d_M_passes_65 : decode b_M_passes 65 = .ok (.iload 6, 2) := by decide +kernel
theorem d_M_passes_67 : decode b_M_passes 67 = .ok (.baload, 1) := by decide +kernel
theorem d_M_passes_68 : decode b_M_passes 68 = .ok (.ifCond .eq 38, 3) := by decide +kernel
theorem d_M_passes_71 : decode b_M_passes 71 = .ok (.iload 7, 2) := by decide +kernel
theorem d_M_passes_73 : decode b_M_passes 73 = .ok (.iload_n 3, 1) := by decide +kernel
theorem d_M_passes_74 : decode b_M_passes 74 = .ok (.if_icmp .ne 6, 3) := by decide +kernel
theorem d_M_passes_77 : decode b_M_passes 77 = .ok (.iconst 1, 1) := by decide +kernel
theorem d_M_passes_78 : decode b_M_passes 78 = .ok (.istore 4, 2) := by decide +kernel
theorem d_M_passes_80 : decode b_M_passes 80 = .ok (.aload_n 0, 1) := by decide +kernel
theorem d_M_passes_81 : decode b_M_passes 81 = .ok (.getfield 95, 3) := by decide +kernel
theorem d_M_passes_84 : decode b_M_passes 84 = .ok (.iload 7, 2) := by decide +kernel
theorem d_M_passes_86 : decode b_M_passes 86 = .ok (.iaload, 1) := by decide +kernel
theorem d_M_passes_87 : decode b_M_passes 87 = .ok (.iload_n 2, 1) := by decide +kernel
theorem d_M_passes_88 : decode b_M_passes 88 = .ok (.iconst 1, 1) := by decide +kernel
theorem d_M_passes_89 : decode b_M_passes 89 = .ok (.iadd, 1) := by decide +kernel
theorem d_M_passes_90 : decode b_M_passes 90 = .ok (.if_icmp .le 35, 3) := by decide +kernel
theorem d_M_passes_93 : decode b_M_passes 93 = .ok (.aload_n 0, 1) := by decide +kernel
theorem d_M_passes_94 : decode b_M_passes 94 = .ok (.getfield 95, 3) := by decide +kernel
theorem d_M_passes_97 : decode b_M_passes 97 = .ok (.iload 7, 2) := by decide +kernel
theorem d_M_passes_99 : decode b_M_passes 99 = .ok (.iload_n 2, 1) := by decide +kernel
theorem d_M_passes_100 : decode b_M_passes 100 = .ok (.iconst 1, 1) := by decide +kernel
theorem d_M_passes_101 : decode b_M_passes 101 = .ok (.iadd, 1) := by decide +kernel
theorem d_M_passes_102 : decode b_M_passes 102 = .ok (.iastore, 1) := by decide +kernel
theorem d_M_passes_103 : decode b_M_passes 103 = .ok (.goto 22, 3) := by decide +kernel
theorem d_M_passes_106 : decode b_M_passes 106 = .ok (.aload_n 0, 1) := by decide +kernel
theorem d_M_passes_107 : decode b_M_passes 107 = .ok (.getfield 95, 3) := by decide +kernel
theorem d_M_passes_110 : decode b_M_passes 110 = .ok (.iload 7, 2) := by decide +kernel
theorem d_M_passes_112 : decode b_M_passes 112 = .ok (.iaload, 1) := by decide +kernel
theorem d_M_passes_113 : decode b_M_passes 113 = .ok (.iload_n 2, 1) := by decide +kernel
theorem d_M_passes_114 : decode b_M_passes 114 = .ok (.if_icmp .gt 11, 3) := by decide +kernel
theorem d_M_passes_117 : decode b_M_passes 117 = .ok (.aload_n 0, 1) := by decide +kernel
theorem d_M_passes_118 : decode b_M_passes 118 = .ok (.getfield 92, 3) := by decide +kernel
theorem d_M_passes_121 : decode b_M_passes 121 = .ok (.iload 6, 2) := by decide +kernel
theorem d_M_passes_123 : decode b_M_passes 123 = .ok (.iconst 1, 1) := by decide +kernel
theorem d_M_passes_124 : decode b_M_passes 124 = .ok (.bastore, 1) := by decide +kernel
theorem d_M_passes_125 : decode b_M_passes 125 = .ok (.iinc 5 1, 3) := by decide +kernel
theorem d_M_passes_128 : decode b_M_passes 128 = .ok (.goto (-119), 3) := by decide +kernel
theorem d_M_passes_131 : decode b_M_passes 131 = .ok (.iload 4, 2) := by decide +kernel
theorem d_M_passes_133 : decode b_M_passes 133 = .ok (.ireturn, 1) := by decide +kernel
theorem d_M_arrival_0 : decode b_M_arrival 0 = .ok (.iload_n 3, 1) := by decide +kernel
theorem d_M_arrival_1 : decode b_M_arrival 1 = .ok (.iload_n 2, 1) := by decide +kernel
theorem d_M_arrival_2 : decode b_M_arrival 2 = .ok (.if_icmp .ne 6, 3) := by decide +kernel
theorem d_M_arrival_5 : decode b_M_arrival 5 = .ok (.iload 4, 2) := by decide +kernel
theorem d_M_arrival_7 : decode b_M_arrival 7 = .ok (.ireturn, 1) := by decide +kernel
theorem d_M_arrival_8 : decode b_M_arrival 8 = .ok (.iconst 0, 1) := by decide +kernel
theorem d_M_arrival_9 : decode b_M_arrival 9 = .ok (.istore 5, 2) := by decide +kernel
theorem d_M_arrival_11 : decode b_M_arrival 11 = .ok (.iload 5, 2) := by decide +kernel
theorem d_M_arrival_13 : decode b_M_arrival 13 = .ok (.bipush 8, 2) := by decide +kernel
theorem d_M_arrival_15 : decode b_M_arrival 15 = .ok (.if_icmp .ge 29, 3) := by decide +kernel
theorem d_M_arrival_18 : decode b_M_arrival 18 = .ok (.aload_n 0, 1) := by decide +kernel
theorem d_M_arrival_19 : decode b_M_arrival 19 = .ok (.getfield 95, 3) := by decide +kernel
theorem d_M_arrival_22 : decode b_M_arrival 22 = .ok (.iload 5, 2) := by decide +kernel
theorem d_M_arrival_24 : decode b_M_arrival 24 = .ok (.iload 5, 2) := by decide +kernel
theorem d_M_arrival_26 : decode b_M_arrival 26 = .ok (.iload_n 3, 1) := by decide +kernel
theorem d_M_arrival_27 : decode b_M_arrival 27 = .ok (.if_icmp .ne 8, 3) := by decide +kernel
theorem d_M_arrival_30 : decode b_M_arrival 30 = .ok (.iload 4, 2) := by decide +kernel
theorem d_M_arrival_32 : decode b_M_arrival 32 = .ok (.goto 5, 3) := by decide +kernel
theorem d_M_arrival_35 : decode b_M_arrival 35 = .ok (.ldc 133, 2) := by decide +kernel
theorem d_M_arrival_37 : decode b_M_arrival 37 = .ok (.iastore, 1) := by decide +kernel
theorem d_M_arrival_38 : decode b_M_arrival 38 = .ok (.iinc 5 1, 3) := by decide +kernel
theorem d_M_arrival_41 : decode b_M_arrival 41 = .ok (.goto (-30), 3) := by decide +kernel
theorem d_M_arrival_44 : decode b_M_arrival 44 = .ok (.iconst 0, 1) := by decide +kernel
theorem d_M_arrival_45 : decode b_M_arrival 45 = .ok (.istore 5, 2) := by decide +kernel
theorem d_M_arrival_47 : decode b_M_arrival 47 = .ok (.iload 5, 2) := by decide +kernel
theorem d_M_arrival_49 : decode b_M_arrival 49 = .ok (.iconst 4, 1) := by decide +kernel
theorem d_M_arrival_50 : decode b_M_arrival 50 = .ok (.if_icmp .ge 30, 3) := by decide +kernel
theorem d_M_arrival_53 : decode b_M_arrival 53 = .ok (.aload_n 0, 1) := by decide +kernel
theorem d_M_arrival_54 : decode b_M_arrival 54 = .ok (.getfield 92, 3) := by decide +kernel
theorem d_M_arrival_57 : decode b_M_arrival 57 = .ok (.iload 5, 2) := by decide +kernel
theorem d_M_arrival_59 : decode b_M_arrival 59 = .ok (.iload 5, 2) := by decide +kernel
theorem d_M_arrival_61 : decode b_M_arrival 61 = .ok (.bipush 8, 2) := by decide +kernel
theorem d_M_arrival_63 : decode b_M_arrival 63 = .ok (.iadd, 1) := by decide +kernel
theorem d_M_arrival_64 : decode b_M_arrival 64 = .ok (.iload_n 3, 1) := by decide +kernel
theorem d_M_arrival_65 : decode b_M_arrival 65 = .ok (.if_icmp .ne 7, 3) := by decide +kernel
theorem d_M_arrival_68 : decode b_M_arrival 68 = .ok (.iconst 1, 1) := by decide +kernel
theorem d_M_arrival_69 : decode b_M_arrival 69 = .ok (.goto 4, 3) := by decide +kernel
theorem d_M_arrival_72 : decode b_M_arrival 72 = .ok (.iconst 0, 1) := by decide +kernel
theorem d_M_arrival_73 : decode b_M_arrival 73 = .ok (.bastore, 1) := by decide +kernel
theorem d_M_arrival_74 : decode b_M_arrival 74 = .ok (.iinc 5 1, 3) := by decide +kernel
theorem d_M_arrival_77 : decode b_M_arrival 77 = .ok (.goto (-30), 3) := by decide +kernel
theorem d_M_arrival_80 : decode b_M_arrival 80 = .ok (.aload_n 0, 1) := by decide +kernel
theorem d_M_arrival_81 : decode b_M_arrival 81 = .ok (.iload_n 1, 1) := by decide +kernel
theorem d_M_arrival_82 : decode b_M_arrival 82 = .ok (.iload_n 3, 1) := by decide +kernel
theorem d_M_arrival_83 : decode b_M_arrival 83 = .ok (.bipush 8, 2) := by decide +kernel
theorem d_M_arrival_85 : decode b_M_arrival 85 = .ok (.if_icmp .ge 8, 3) := by decide +kernel
theorem d_M_arrival_88 : decode b_M_arrival 88 = .ok (.iload 4, 2) := by decide +kernel
theorem d_M_arrival_90 : decode b_M_arrival 90 = .ok (.goto 7, 3) := by decide +kernel
theorem d_M_arrival_93 : decode b_M_arrival 93 = .ok (.iload 4, 2) := by decide +kernel
theorem d_M_arrival_95 : decode b_M_arrival 95 = .ok (.iconst 1, 1) := by decide +kernel
theorem d_M_arrival_96 : decode b_M_arrival 96 = .ok (.iadd, 1) := by decide +kernel
theorem d_M_arrival_97 : decode b_M_arrival 97 = .ok (.invokevirtual 134, 3) := by decide +kernel
theorem d_M_arrival_100 : decode b_M_arrival 100 = .ok (.istore 5, 2) := by decide +kernel
theorem d_M_arrival_102 : decode b_M_arrival 102 = .ok (.iload 5, 2) := by decide +kernel
theorem d_M_arrival_104 : decode b_M_arrival 104 = .ok (.iload 4, 2) := by decide +kernel
theorem d_M_arrival_106 : decode b_M_arrival 106 = .ok (.sipush 20160, 3) := by decide +kernel
theorem d_M_arrival_109 : decode b_M_arrival 109 = .ok (.iadd, 1) := by decide +kernel
theorem d_M_arrival_110 : decode b_M_arrival 110 = .ok (.if_icmp .gt 31, 3) := by decide +kernel
theorem d_M_arrival_113 : decode b_M_arrival 113 = .ok (.aload_n 0, 1) := by decide +kernel
theorem d_M_arrival_114 : decode b_M_arrival 114 = .ok (.iload_n 1, 1) := by decide +kernel
theorem d_M_arrival_115 : decode b_M_arrival 115 = .ok (.iload 5, 2) := by decide +kernel
theorem d_M_arrival_117 : decode b_M_arrival 117 = .ok (.iload_n 2, 1) := by decide +kernel
theorem d_M_arrival_118 : decode b_M_arrival 118 = .ok (.invokevirtual 137, 3) := by decide +kernel
theorem d_M_arrival_121 : decode b_M_arrival 121 = .ok (.ifCond .eq 6, 3) := by decide +kernel
theorem d_M_arrival_124 : decode b_M_arrival 124 = .ok (.iload 5, 2) := by decide +kernel
theorem d_M_arrival_126 : decode b_M_arrival 126 = .ok (.ireturn, 1) := by decide +kernel
theorem d_M_arrival_127 : decode b_M_arrival 127 = .ok (.aload_n 0, 1) := by decide +kernel
theorem d_M_arrival_128 : decode b_M_arrival 128 = .ok (.iload_n 1, 1) := by decide +kernel
theorem d_M_arrival_129 : decode b_M_arrival 129 = .ok (.iload 5, 2) := by decide +kernel
theorem d_M_arrival_131 : decode b_M_arrival 131 = .ok (.iconst 1, 1) := by decide +kernel
theorem d_M_arrival_132 : decode b_M_arrival 132 = .ok (.iadd, 1) := by decide +kernel
theorem d_M_arrival_133 : decode b_M_arrival 133 = .ok (.invokevirtual 134, 3) := by decide +kernel
theorem d_M_arrival_136 : decode b_M_arrival 136 = .ok (.istore 5, 2) := by decide +kernel
theorem d_M_arrival_138 : decode b_M_arrival 138 = .ok (.goto (-36), 3) := by decide +kernel
theorem d_M_arrival_141 : decode b_M_arrival 141 = .ok (.iconst (-1), 1) := by decide +kernel
theorem d_M_arrival_142 : decode b_M_arrival 142 = .ok (.ireturn, 1) := by decide +kernel
theorem d_M_earlier_0 : decode b_M_earlier 0 = .ok (.iload_n 0, 1) := by decide +kernel
theorem d_M_earlier_1 : decode b_M_earlier 1 = .ok (.iconst (-1), 1) := by decide +kernel
theorem d_M_earlier_2 : decode b_M_earlier 2 = .ok (.if_icmp .eq 17, 3) := by decide +kernel
theorem d_M_earlier_5 : decode b_M_earlier 5 = .ok (.iload_n 1, 1) := by decide +kernel
theorem d_M_earlier_6 : decode b_M_earlier 6 = .ok (.iconst (-1), 1) := by decide +kernel
theorem d_M_earlier_7 : decode b_M_earlier 7 = .ok (.if_icmp .eq 8, 3) := by decide +kernel
theorem d_M_earlier_10 : decode b_M_earlier 10 = .ok (.iload_n 0, 1) := by decide +kernel
theorem d_M_earlier_11 : decode b_M_earlier 11 = .ok (.iload_n 1, 1) := by decide +kernel
theorem d_M_earlier_12 : decode b_M_earlier 12 = .ok (.if_icmp .ge 7, 3) := by decide +kernel
theorem d_M_earlier_15 : decode b_M_earlier 15 = .ok (.iconst 1, 1) := by decide +kernel
theorem d_M_earlier_16 : decode b_M_earlier 16 = .ok (.goto 4, 3) := by decide +kernel
theorem d_M_earlier_19 : decode b_M_earlier 19 = .ok (.iconst 0, 1) := by decide +kernel
theorem d_M_earlier_20 : decode b_M_earlier 20 = .ok (.ireturn, 1) := by decide +kernel
theorem d_M_best_0 : decode b_M_best 0 = .ok (.aload_n 0, 1) := by decide +kernel
theorem d_M_best_1 : decode b_M_best 1 = .ok (.iload_n 1, 1) := by decide +kernel
theorem d_M_best_2 : decode b_M_best 2 = .ok (.invokestatic 119, 3) := by decide +kernel
theorem d_M_best_5 : decode b_M_best 5 = .ok (.ifCond .eq 23, 3) := by decide +kernel
theorem d_M_best_8 : decode b_M_best 8 = .ok (.iload_n 2, 1) := by decide +kernel
theorem d_M_best_9 : decode b_M_best 9 = .ok (.invokestatic 119, 3) := by decide +kernel
theorem d_M_best_12 : decode b_M_best 12 = .ok (.ifCond .eq 16, 3) := by decide +kernel
theorem d_M_best_15 : decode b_M_best 15 = .ok (.iload_n 3, 1) := by decide +kernel
theorem d_M_best_16 : decode b_M_best 16 = .ok (.ldc 141, 2) := by decide +kernel
theorem d_M_best_18 : decode b_M_best 18 = .ok (.invokestatic 108, 3) := by decide +kernel
theorem d_M_best_21 : decode b_M_best 21 = .ok (.ifCond .eq 7, 3) := by decide +kernel
theorem d_M_best_24 : decode b_M_best 24 = .ok (.iconst 0, 1) := by decide +kernel
theorem d_M_best_25 : decode b_M_best 25 = .ok (.goto 4, 3) := by decide +kernel
theorem d_M_best_28 : decode b_M_best 28 = .ok (.iconst 1, 1) := by decide +kernel
theorem d_M_best_29 : decode b_M_best 29 = .ok (.putfield 104, 3) := by decide +kernel
theorem d_M_best_32 : decode b_M_best 32 = .ok (.aload_n 0, 1) := by decide +kernel
theorem d_M_best_33 : decode b_M_best 33 = .ok (.getfield 104, 3) := by decide +kernel
theorem d_M_best_36 : decode b_M_best 36 = .ok (.ifCond .eq 7, 3) := by decide +kernel
theorem d_M_best_39 : decode b_M_best 39 = .ok (.iconst 0, 1) := by decide +kernel
theorem d_M_best_40 : decode b_M_best 40 = .ok (.goto 14, 3) := by decide +kernel
theorem d_M_best_43 : decode b_M_best 43 = .ok (.aload_n 0, 1) := by decide +kernel
theorem d_M_best_44 : decode b_M_best 44 = .ok (.aload_n 0, 1) := by decide +kernel
theorem d_M_best_45 : decode b_M_best 45 = .ok (.getfield 130, 3) := by decide +kernel
theorem d_M_best_48 : decode b_M_best 48 = .ok (.iload_n 2, 1) := by decide +kernel
theorem d_M_best_49 : decode b_M_best 49 = .ok (.iload_n 1, 1) := by decide +kernel
theorem d_M_best_50 : decode b_M_best 50 = .ok (.iload_n 3, 1) := by decide +kernel
theorem d_M_best_51 : decode b_M_best 51 = .ok (.invokevirtual 142, 3) := by decide +kernel
theorem d_M_best_54 : decode b_M_best 54 = .ok (.ireturn, 1) := by decide +kernel
theorem d_M_pieces_0 : decode b_M_pieces 0 = .ok (.aload_n 0, 1) := by decide +kernel
theorem d_M_pieces_1 : decode b_M_pieces 1 = .ok (.getfield 25, 3) := by decide +kernel
theorem d_M_pieces_4 : decode b_M_pieces 4 = .ok (.iload_n 1, 1) := by decide +kernel
theorem d_M_pieces_5 : decode b_M_pieces 5 = .ok (.iaload, 1) := by decide +kernel
theorem d_M_pieces_6 : decode b_M_pieces 6 = .ok (.bipush 7, 2) := by decide +kernel
theorem d_M_pieces_8 : decode b_M_pieces 8 = .ok (.iadd, 1) := by decide +kernel
theorem d_M_pieces_9 : decode b_M_pieces 9 = .ok (.bipush 8, 2) := by decide +kernel
theorem d_M_pieces_11 : decode b_M_pieces 11 = .ok (.idiv, 1) := by decide +kernel
theorem d_M_pieces_12 : decode b_M_pieces 12 = .ok (.ireturn, 1) := by decide +kernel
theorem d_M_at_0 : decode b_M_at 0 = .ok (.bipush 64, 2) := by decide +kernel
theorem d_M_at_2 : decode b_M_at 2 = .ok (.iload_n 0, 1) := by decide +kernel
theorem d_M_at_3 : decode b_M_at 3 = .ok (.imul, 1) := by decide +kernel
theorem d_M_at_4 : decode b_M_at 4 = .ok (.iconst 4, 1) := by decide +kernel
theorem d_M_at_5 : decode b_M_at 5 = .ok (.iload_n 1, 1) := by decide +kernel
theorem d_M_at_6 : decode b_M_at 6 = .ok (.imul, 1) := by decide +kernel
theorem d_M_at_7 : decode b_M_at 7 = .ok (.iadd, 1) := by decide +kernel
theorem d_M_at_8 : decode b_M_at 8 = .ok (.iload_n 2, 1) := by decide +kernel
theorem d_M_at_9 : decode b_M_at 9 = .ok (.iadd, 1) := by decide +kernel
theorem d_M_at_10 : decode b_M_at 10 = .ok (.ireturn, 1) := by decide +kernel
theorem d_M_room_0 : decode b_M_room 0 = .ok (.iload_n 1, 1) := by decide +kernel
theorem d_M_room_1 : decode b_M_room 1 = .ok (.bipush 8, 2) := by decide +kernel
theorem d_M_room_3 : decode b_M_room 3 = .ok (.if_icmp .ge 8, 3) := by decide +kernel
theorem d_M_room_6 : decode b_M_room 6 = .ok (.bipush 24, 2) := by decide +kernel
theorem d_M_room_8 : decode b_M_room 8 = .ok (.goto 5, 3) := by decide +kernel
theorem d_M_room_11 : decode b_M_room 11 = .ok (.bipush 10, 2) := by decide +kernel
theorem d_M_room_13 : decode b_M_room 13 = .ok (.istore_n 2, 1) := by decide +kernel
theorem d_M_room_14 : decode b_M_room 14 = .ok (.bipush 64, 2) := by decide +kernel
theorem d_M_room_16 : decode b_M_room 16 = .ok (.iload_n 1, 1) := by decide +kernel
theorem d_M_room_17 : decode b_M_room 17 = .ok (.imul, 1) := by decide +kernel
theorem d_M_room_18 : decode b_M_room 18 = .ok (.istore_n 3, 1) := by decide +kernel
theorem d_M_room_19 : decode b_M_room 19 = .ok (.iload_n 3, 1) := by decide +kernel
theorem d_M_room_20 : decode b_M_room 20 = .ok (.bipush 64, 2) := by decide +kernel
theorem d_M_room_22 : decode b_M_room 22 = .ok (.iload_n 1, 1) := by decide +kernel
theorem d_M_room_23 : decode b_M_room 23 = .ok (.imul, 1) := by decide +kernel
theorem d_M_room_24 : decode b_M_room 24 = .ok (.bipush 64, 2) := by decide +kernel
theorem d_M_room_26 : decode b_M_room 26 = .ok (.iadd, 1) := by decide +kernel
theorem d_M_room_27 : decode b_M_room 27 = .ok (.if_icmp .ge 21, 3) := by decide +kernel
theorem d_M_room_30 : decode b_M_room 30 = .ok (.aload_n 0, 1) := by decide +kernel
theorem d_M_room_31 : decode b_M_room 31 = .ok (.getfield 56, 3) := by decide +kernel
theorem d_M_room_34 : decode b_M_room 34 = .ok (.iload_n 3, 1) := by decide +kernel
theorem d_M_room_35 : decode b_M_room 35 = .ok (.baload, 1) := by decide +kernel
theorem d_M_room_36 : decode b_M_room 36 = .ok (.ifCond .eq 6, 3) := by decide +kernel
theorem d_M_room_39 : decode b_M_room 39 = .ok (.iinc 2 (-1), 3) := by decide +kernel
theorem d_M_room_42 : decode b_M_room 42 = .ok (.iinc 3 1, 3) := by decide +kernel
theorem d_M_room_45 : decode b_M_room 45 = .ok (.goto (-26), 3) := by decide +kernel
theorem d_M_room_48 : decode b_M_room 48 = .ok (.iload_n 2, 1) := by decide +kernel
theorem d_M_room_49 : decode b_M_room 49 = .ok (.ireturn, 1) := by decide +kernel
theorem d_M_hear_0 : decode b_M_hear 0 = .ok (.aload_n 0, 1) := by decide +kernel
theorem d_M_hear_1 : decode b_M_hear 1 = .ok (.getfield 62, 3) := by decide +kernel
theorem d_M_hear_4 : decode b_M_hear 4 = .ok (.iload_n 1, 1) := by decide +kernel
theorem d_M_hear_5 : decode b_M_hear 5 = .ok (.iload_n 2, 1) := by decide +kernel
theorem d_M_hear_6 : decode b_M_hear 6 = .ok (.iastore, 1) := by decide +kernel
theorem d_M_hear_7 : decode b_M_hear 7 = .ok (.aload_n 0, 1) := by decide +kernel
theorem d_M_hear_8 : decode b_M_hear 8 = .ok (.getfield 56, 3) := by decide +kernel
theorem d_M_hear_11 : decode b_M_hear 11 = .ok (.iload_n 1, 1) := by decide +kernel
theorem d_M_hear_12 : decode b_M_hear 12 = .ok (.baload, 1) := by decide +kernel
theorem d_M_hear_13 : decode b_M_hear 13 = .ok (.ifCond .eq 20, 3) := by decide +kernel
theorem d_M_hear_16 : decode b_M_hear 16 = .ok (.iload_n 2, 1) := by decide +kernel
theorem d_M_hear_17 : decode b_M_hear 17 = .ok (.aload_n 0, 1) := by decide +kernel
theorem d_M_hear_18 : decode b_M_hear 18 = .ok (.getfield 59, 3) := by decide +kernel
theorem d_M_hear_21 : decode b_M_hear 21 = .ok (.iload_n 1, 1) := by decide +kernel
theorem d_M_hear_22 : decode b_M_hear 22 = .ok (.iaload, 1) := by decide +kernel
theorem d_M_hear_23 : decode b_M_hear 23 = .ok (.if_icmp .le 10, 3) := by decide +kernel
theorem d_M_hear_26 : decode b_M_hear 26 = .ok (.aload_n 0, 1) := by decide +kernel
theorem d_M_hear_27 : decode b_M_hear 27 = .ok (.getfield 56, 3) := by decide +kernel
theorem d_M_hear_30 : decode b_M_hear 30 = .ok (.iload_n 1, 1) := by decide +kernel
theorem d_M_hear_31 : decode b_M_hear 31 = .ok (.iconst 0, 1) := by decide +kernel
theorem d_M_hear_32 : decode b_M_hear 32 = .ok (.bastore, 1) := by decide +kernel
theorem d_M_hear_33 : decode b_M_hear 33 = .ok (.return_, 1) := by decide +kernel
theorem d_M_learn_0 : decode b_M_learn 0 = .ok (.aload_n 0, 1) := by decide +kernel
theorem d_M_learn_1 : decode b_M_learn 1 = .ok (.getfield 68, 3) := by decide +kernel
theorem d_M_learn_4 : decode b_M_learn 4 = .ok (.bipush 16, 2) := by decide +kernel
theorem d_M_learn_6 : decode b_M_learn 6 = .ok (.iload_n 1, 1) := by decide +kernel
theorem d_M_learn_7 : decode b_M_learn 7 = .ok (.imul, 1) := by decide +kernel
theorem d_M_learn_8 : decode b_M_learn 8 = .ok (.iload_n 2, 1) := by decide +kernel
theorem d_M_learn_9 : decode b_M_learn 9 = .ok (.iadd, 1) := by decide +kernel
theorem d_M_learn_10 : decode b_M_learn 10 = .ok (.iload_n 3, 1) := by decide +kernel
theorem d_M_learn_11 : decode b_M_learn 11 = .ok (.iastore, 1) := by decide +kernel
theorem d_M_learn_12 : decode b_M_learn 12 = .ok (.iload_n 3, 1) := by decide +kernel
theorem d_M_learn_13 : decode b_M_learn 13 = .ok (.ifCond .eq 31, 3) := by decide +kernel
theorem d_M_learn_16 : decode b_M_learn 16 = .ok (.iconst 0, 1) := by decide +kernel
theorem d_M_learn_17 : decode b_M_learn 17 = .ok (.istore 4, 2) := by decide +kernel
theorem d_M_learn_19 : decode b_M_learn 19 = .ok (.iload 4, 2) := by decide +kernel
theorem d_M_learn_21 : decode b_M_learn 21 = .ok (.iconst 4, 1) := by decide +kernel
theorem d_M_learn_22 : decode b_M_learn 22 = .ok (.if_icmp .ge 22, 3) := by decide +kernel
theorem d_M_learn_25 : decode b_M_learn 25 = .ok (.aload_n 0, 1) := by decide +kernel
theorem d_M_learn_26 : decode b_M_learn 26 = .ok (.getfield 56, 3) := by decide +kernel
theorem d_M_learn_29 : decode b_M_learn 29 = .ok (.iload_n 1, 1) := by decide +kernel
theorem d_M_learn_30 : decode b_M_learn 30 = .ok (.iload_n 2, 1) := by decide +kernel
theorem d_M_learn_31 : decode b_M_learn 31 = .ok (.iload 4, 2) := by decide +kernel
theorem d_M_learn_33 : decode b_M_learn 33 = .ok (.invokestatic 146, 3) := by decide +kernel
theorem d_M_learn_36 : decode b_M_learn 36 = .ok (.iconst 0, 1) := by decide +kernel
theorem d_M_learn_37 : decode b_M_learn 37 = .ok (.bastore, 1) := by decide +kernel
theorem d_M_learn_38 : decode b_M_learn 38 = .ok (.iinc 4 1, 3) := by decide +kernel
theorem d_M_learn_41 : decode b_M_learn 41 = .ok (.goto (-22), 3) := by decide +kernel
theorem d_M_learn_44 : decode b_M_learn 44 = .ok (.return_, 1) := by decide +kernel
theorem d_M_bytesIn_0 : decode b_M_bytesIn 0 = .ok (.iconst 0, 1) := by decide +kernel
theorem d_M_bytesIn_1 : decode b_M_bytesIn 1 = .ok (.istore_n 2, 1) := by decide +kernel
theorem d_M_bytesIn_2 : decode b_M_bytesIn 2 = .ok (.iconst 0, 1) := by decide +kernel
theorem d_M_bytesIn_3 : decode b_M_bytesIn 3 = .ok (.istore_n 3, 1) := by decide +kernel
theorem d_M_bytesIn_4 : decode b_M_bytesIn 4 = .ok (.iload_n 3, 1) := by decide +kernel
theorem d_M_bytesIn_5 : decode b_M_bytesIn 5 = .ok (.aload_n 0, 1) := by decide +kernel
theorem d_M_bytesIn_6 : decode b_M_bytesIn 6 = .ok (.getfield 80, 3) := by decide +kernel
theorem d_M_bytesIn_9 : decode b_M_bytesIn 9 = .ok (.iload_n 1, 1) := by decide +kernel
theorem d_M_bytesIn_10 : decode b_M_bytesIn 10 = .ok (.iaload, 1) := by decide +kernel
theorem d_M_bytesIn_11 : decode b_M_bytesIn 11 = .ok (.if_icmp .ge 28, 3) := by decide +kernel
theorem d_M_bytesIn_14 : decode b_M_bytesIn 14 = .ok (.iload_n 2, 1) := by decide +kernel
theorem d_M_bytesIn_15 : decode b_M_bytesIn 15 = .ok (.aload_n 0, 1) := by decide +kernel
theorem d_M_bytesIn_16 : decode b_M_bytesIn 16 = .ok (.getfield 25, 3) := by decide +kernel
theorem d_M_bytesIn_19 : decode b_M_bytesIn 19 = .ok (.aload_n 0, 1) := by decide +kernel
theorem d_M_bytesIn_20 : decode b_M_bytesIn 20 = .ok (.getfield 83, 3) := by decide +kernel
theorem d_M_bytesIn_23 : decode b_M_bytesIn 23 = .ok (.bipush 16, 2) := by decide +kernel
theorem d_M_bytesIn_25 : decode b_M_bytesIn 25 = .ok (.iload_n 1, 1) := by decide +kernel
theorem d_M_bytesIn_26 : decode b_M_bytesIn 26 = .ok (.imul, 1) := by decide +kernel
theorem d_M_bytesIn_27 : decode b_M_bytesIn 27 = .ok (.iload_n 3, 1) := by decide +kernel
theorem d_M_bytesIn_28 : decode b_M_bytesIn 28 = .ok (.iadd, 1) := by decide +kernel
theorem d_M_bytesIn_29 : decode b_M_bytesIn 29 = .ok (.iaload, 1) := by decide +kernel
theorem d_M_bytesIn_30 : decode b_M_bytesIn 30 = .ok (.iaload, 1) := by decide +kernel
theorem d_M_bytesIn_31 : decode b_M_bytesIn 31 = .ok (.iadd, 1) := by decide +kernel
theorem d_M_bytesIn_32 : decode b_M_bytesIn 32 = .ok (.istore_n 2, 1) := by decide +kernel
theorem d_M_bytesIn_33 : decode b_M_bytesIn 33 = .ok (.iinc 3 1, 3) := by decide +kernel
theorem d_M_bytesIn_36 : decode b_M_bytesIn 36 = .ok (.goto (-32), 3) := by decide +kernel
theorem d_M_bytesIn_39 : decode b_M_bytesIn 39 = .ok (.iload_n 2, 1) := by decide +kernel
theorem d_M_bytesIn_40 : decode b_M_bytesIn 40 = .ok (.ireturn, 1) := by decide +kernel
theorem d_M_isFor_0 : decode b_M_isFor 0 = .ok (.aload_n 0, 1) := by decide +kernel
theorem d_M_isFor_1 : decode b_M_isFor 1 = .ok (.getfield 37, 3) := by decide +kernel
theorem d_M_isFor_4 : decode b_M_isFor 4 = .ok (.iload_n 1, 1) := by decide +kernel
theorem d_M_isFor_5 : decode b_M_isFor 5 = .ok (.iaload, 1) := by decide +kernel
theorem d_M_isFor_6 : decode b_M_isFor 6 = .ok (.iconst 3, 1) := by decide +kernel
theorem d_M_isFor_7 : decode b_M_isFor 7 = .ok (.if_icmp .ge 21, 3) := by decide +kernel
theorem d_M_isFor_10 : decode b_M_isFor 10 = .ok (.aload_n 0, 1) := by decide +kernel
theorem d_M_isFor_11 : decode b_M_isFor 11 = .ok (.getfield 37, 3) := by decide +kernel
theorem d_M_isFor_14 : decode b_M_isFor 14 = .ok (.iload_n 1, 1) := by decide +kernel
theorem d_M_isFor_15 : decode b_M_isFor 15 = .ok (.iaload, 1) := by decide +kernel
theorem d_M_isFor_16 : decode b_M_isFor 16 = .ok (.iload_n 2, 1) := by decide +kernel
theorem d_M_isFor_17 : decode b_M_isFor 17 = .ok (.if_icmp .ne 7, 3) := by decide +kernel
theorem d_M_isFor_20 : decode b_M_isFor 20 = .ok (.iconst 1, 1) := by decide +kernel
theorem d_M_isFor_21 : decode b_M_isFor 21 = .ok (.goto 34, 3) := by decide +kernel
theorem d_M_isFor_24 : decode b_M_isFor 24 = .ok (.iconst 0, 1) := by decide +kernel
theorem d_M_isFor_25 : decode b_M_isFor 25 = .ok (.goto 30, 3) := by decide +kernel
theorem d_M_isFor_28 : decode b_M_isFor 28 = .ok (.aload_n 0, 1) := by decide +kernel
theorem d_M_isFor_29 : decode b_M_isFor 29 = .ok (.getfield 86, 3) := by decide +kernel
theorem d_M_isFor_32 : decode b_M_isFor 32 = .ok (.bipush 6, 2) := by decide +kernel
theorem d_M_isFor_34 : decode b_M_isFor 34 = .ok (.aload_n 0, 1) := by decide +kernel
theorem d_M_isFor_35 : decode b_M_isFor 35 = .ok (.getfield 34, 3) := by decide +kernel
theorem d_M_isFor_38 : decode b_M_isFor 38 = .ok (.iload_n 1, 1) := by decide +kernel
theorem d_M_isFor_39 : decode b_M_isFor 39 = .ok (.iaload, 1) := by decide +kernel
theorem d_M_isFor_40 : decode b_M_isFor 40 = .ok (.imul, 1) := by decide +kernel
theorem d_M_isFor_41 : decode b_M_isFor 41 = .ok (.iconst 3, 1) := by decide +kernel
theorem d_M_isFor_42 : decode b_M_isFor 42 = .ok (.aload_n 0, 1) := by decide +kernel
theorem d_M_isFor_43 : decode b_M_isFor 43 = .ok (.getfield 37, 3) := by decide +kernel
theorem d_M_isFor_46 : decode b_M_isFor 46 = .ok (.iload_n 1, 1) := by decide +kernel
theorem d_M_isFor_47 : decode b_M_isFor 47 = .ok (.iaload, 1) := by decide +kernel
theorem d_M_isFor_48 : decode b_M_isFor 48 = .ok (.iconst 3, 1) := by decide +kernel
theorem d_M_isFor_49 : decode b_M_isFor 49 = .ok (.isub, 1) := by decide +kernel
theorem d_M_isFor_50 : decode b_M_isFor 50 = .ok (.imul, 1) := by decide +kernel
theorem d_M_isFor_51 : decode b_M_isFor 51 = .ok (.iadd, 1) := by decide +kernel
theorem d_M_isFor_52 : decode b_M_isFor 52 = .ok (.iload_n 2, 1) := by decide +kernel
theorem d_M_isFor_53 : decode b_M_isFor 53 = .ok (.iadd, 1) := by decide +kernel
theorem d_M_isFor_54 : decode b_M_isFor 54 = .ok (.baload, 1) := by decide +kernel
theorem d_M_isFor_55 : decode b_M_isFor 55 = .ok (.ireturn, 1) := by decide +kernel
theorem d_M_complete_0 : decode b_M_complete 0 = .ok (.iconst 0, 1) := by decide +kernel
theorem d_M_complete_1 : decode b_M_complete 1 = .ok (.istore_n 2, 1) := by decide +kernel
theorem d_M_complete_2 : decode b_M_complete 2 = .ok (.iload_n 2, 1) := by decide +kernel
theorem d_M_complete_3 : decode b_M_complete 3 = .ok (.aload_n 0, 1) := by decide +kernel
theorem d_M_complete_4 : decode b_M_complete 4 = .ok (.iload_n 1, 1) := by decide +kernel
theorem d_M_complete_5 : decode b_M_complete 5 = .ok (.invokevirtual 150, 3) := by decide +kernel
theorem d_M_complete_8 : decode b_M_complete 8 = .ok (.if_icmp .ge 30, 3) := by decide +kernel
theorem d_M_complete_11 : decode b_M_complete 11 = .ok (.aload_n 0, 1) := by decide +kernel
theorem d_M_complete_12 : decode b_M_complete 12 = .ok (.getfield 56, 3) := by decide +kernel
theorem d_M_complete_15 : decode b_M_complete 15 = .ok (.aload_n 0, 1) := by decide +kernel
theorem d_M_complete_16 : decode b_M_complete 16 = .ok (.getfield 34, 3) := by decide +kernel
theorem d_M_complete_19 : decode b_M_complete 19 = .ok (.iload_n 1, 1) := by decide +kernel
theorem d_M_complete_20 : decode b_M_complete 20 = .ok (.iaload, 1) := by decide +kernel
theorem d_M_complete_21 : decode b_M_complete 21 = .ok (.iload_n 1, 1) := by decide +kernel
theorem d_M_complete_22 : decode b_M_complete 22 = .ok (.iload_n 2, 1) := by decide +kernel
theorem d_M_complete_23 : decode b_M_complete 23 = .ok (.invokestatic 146, 3) := by decide +kernel
theorem d_M_complete_26 : decode b_M_complete 26 = .ok (.baload, 1) := by decide +kernel
theorem d_M_complete_27 : decode b_M_complete 27 = .ok (.ifCond .ne 5, 3) := by decide +kernel
theorem d_M_complete_30 : decode b_M_complete 30 = .ok (.iconst 0, 1) := by decide +kernel
theorem d_M_complete_31 : decode b_M_complete 31 = .ok (.ireturn, 1) := by decide +kernel
theorem d_M_complete_32 : decode b_M_complete 32 = .ok (.iinc 2 1, 3) := by decide +kernel
theorem d_M_complete_35 : decode b_M_complete 35 = .ok (.goto (-33), 3) := by decide +kernel
theorem d_M_complete_38 : decode b_M_complete 38 = .ok (.iconst 1, 1) := by decide +kernel
theorem d_M_complete_39 : decode b_M_complete 39 = .ok (.ireturn, 1) := by decide +kernel
theorem d_M_turned_0 : decode b_M_turned 0 = .ok (.iload_n 0, 1) := by decide +kernel
theorem d_M_turned_1 : decode b_M_turned 1 = .ok (.iconst 5, 1) := by decide +kernel
theorem d_M_turned_2 : decode b_M_turned 2 = .ok (.ishl, 1) := by decide +kernel
theorem d_M_turned_3 : decode b_M_turned 3 = .ok (.iload_n 0, 1) := by decide +kernel
theorem d_M_turned_4 : decode b_M_turned 4 = .ok (.bipush 27, 2) := by decide +kernel
theorem d_M_turned_6 : decode b_M_turned 6 = .ok (.iushr, 1) := by decide +kernel
theorem d_M_turned_7 : decode b_M_turned 7 = .ok (.ior, 1) := by decide +kernel
theorem d_M_turned_8 : decode b_M_turned 8 = .ok (.ireturn, 1) := by decide +kernel
theorem d_M_byteOf_0 : decode b_M_byteOf 0 = .ok (.aload_n 0, 1) := by decide +kernel
theorem d_M_byteOf_1 : decode b_M_byteOf 1 = .ok (.getfield 65, 3) := by decide +kernel
theorem d_M_byteOf_4 : decode b_M_byteOf 4 = .ok (.bipush 8, 2) := by decide +kernel
theorem d_M_byteOf_6 : decode b_M_byteOf 6 = .ok (.iload_n 1, 1) := by decide +kernel
theorem d_M_byteOf_7 : decode b_M_byteOf 7 = .ok (.iload_n 2, 1) := by decide +kernel
theorem d_M_byteOf_8 : decode b_M_byteOf 8 = .ok (.iload_n 3, 1) := by decide +kernel
theorem d_M_byteOf_9 : decode b_M_byteOf 9 = .ok (.bipush 8, 2) := by decide +kernel
theorem d_M_byteOf_11 : decode b_M_byteOf 11 = .ok (.idiv, 1) := by decide +kernel
theorem d_M_byteOf_12 : decode b_M_byteOf 12 = .ok (.invokestatic 146, 3) := by decide +kernel
theorem d_M_byteOf_15 : decode b_M_byteOf 15 = .ok (.imul, 1) := by decide +kernel
theorem d_M_byteOf_16 : decode b_M_byteOf 16 = .ok (.iload_n 3, 1) := by decide +kernel
theorem d_M_byteOf_17 : decode b_M_byteOf 17 = .ok (.bipush 8, 2) := by decide +kernel
theorem d_M_byteOf_19 : decode b_M_byteOf 19 = .ok (.irem, 1) := by decide +kernel
theorem d_M_byteOf_20 : decode b_M_byteOf 20 = .ok (.iadd, 1) := by decide +kernel
theorem d_M_byteOf_21 : decode b_M_byteOf 21 = .ok (.iaload, 1) := by decide +kernel
theorem d_M_byteOf_22 : decode b_M_byteOf 22 = .ok (.ireturn, 1) := by decide +kernel
theorem d_M_lookAt_0 : decode b_M_lookAt 0 = .ok (.aload_n 0, 1) := by decide +kernel
theorem d_M_lookAt_1 : decode b_M_lookAt 1 = .ok (.iload_n 1, 1) := by decide +kernel
theorem d_M_lookAt_2 : decode b_M_lookAt 2 = .ok (.invokevirtual 154, 3) := by decide +kernel
theorem d_M_lookAt_5 : decode b_M_lookAt 5 = .ok (.ifCond .ne 4, 3) := by decide +kernel
theorem d_M_lookAt_8 : decode b_M_lookAt 8 = .ok (.return_, 1) := by decide +kernel
theorem d_M_lookAt_9 : decode b_M_lookAt 9 = .ok (.aload_n 0, 1) := by decide +kernel
theorem d_M_lookAt_10 : decode b_M_lookAt 10 = .ok (.getfield 34, 3) := by decide +kernel
theorem d_M_lookAt_13 : decode b_M_lookAt 13 = .ok (.iload_n 1, 1) := by decide +kernel
theorem d_M_lookAt_14 : decode b_M_lookAt 14 = .ok (.iaload, 1) := by decide +kernel
theorem d_M_lookAt_15 : decode b_M_lookAt 15 = .ok (.istore_n 2, 1) := by decide +kernel
theorem d_M_lookAt_16 : decode b_M_lookAt 16 = .ok (.iconst 0, 1) := by decide +kernel
theorem d_M_lookAt_17 : decode b_M_lookAt 17 = .ok (.istore_n 3, 1) := by decide +kernel
theorem d_M_lookAt_18 : decode b_M_lookAt 18 = .ok (.iconst 0, 1) := by decide +kernel
theorem d_M_lookAt_19 : decode b_M_lookAt 19 = .ok (.istore 4, 2) := by decide +kernel
theorem d_M_lookAt_21 : decode b_M_lookAt 21 = .ok (.iload 4, 2) := by decide +kernel
theorem d_M_lookAt_23 : decode b_M_lookAt 23 = .ok (.aload_n 0, 1) := by decide +kernel
theorem d_M_lookAt_24 : decode b_M_lookAt 24 = .ok (.getfield 25, 3) := by decide +kernel
theorem d_M_lookAt_27 : decode b_M_lookAt 27 = .ok (.iload_n 1, 1) := by decide +kernel
theorem d_M_lookAt_28 : decode b_M_lookAt 28 = .ok (.iaload, 1) := by decide +kernel
theorem d_M_lookAt_29 : decode b_M_lookAt 29 = .ok (.if_icmp .ge 23, 3) := by decide +kernel
theorem d_M_lookAt_32 : decode b_M_lookAt 32 = .ok (.iload_n 3, 1) := by decide +kernel
theorem d_M_lookAt_33 : decode b_M_lookAt 33 = .ok (.invokestatic 157, 3) := by decide +kernel
theorem d_M_lookAt_36 : decode b_M_lookAt 36 = .ok (.aload_n 0, 1) := by decide +kernel
theorem d_M_lookAt_37 : decode b_M_lookAt 37 = .ok (.iload_n 2, 1) := by decide +kernel
theorem d_M_lookAt_38 : decode b_M_lookAt 38 = .ok (.iload_n 1, 1) := by decide +kernel
theorem d_M_lookAt_39 : decode b_M_lookAt 39 = .ok (.iload 4, 2) := by decide +kernel
theorem d_M_lookAt_41 : decode b_M_lookAt 41 = .ok (.invokevirtual 160, 3) := by decide +kernel
theorem d_M_lookAt_44 : decode b_M_lookAt 44 = .ok (.ixor, 1) := by decide +kernel
theorem d_M_lookAt_45 : decode b_M_lookAt 45 = .ok (.istore_n 3, 1) := by decide +kernel
theorem d_M_lookAt_46 : decode b_M_lookAt 46 = .ok (.iinc 4 1, 3) := by decide +kernel
theorem d_M_lookAt_49 : decode b_M_lookAt 49 = .ok (.goto (-28), 3) := by decide +kernel
theorem d_M_lookAt_52 : decode b_M_lookAt 52 = .ok (.iload_n 3, 1) := by decide +kernel
theorem d_M_lookAt_53 : decode b_M_lookAt 53 = .ok (.aload_n 0, 1) := by decide +kernel
theorem d_M_lookAt_54 : decode b_M_lookAt 54 = .ok (.getfield 43, 3) := by decide +kernel
theorem d_M_lookAt_57 : decode b_M_lookAt 57 = .ok (.iload_n 1, 1) := by decide +kernel
theorem d_M_lookAt_58 : decode b_M_lookAt 58 = .ok (.iaload, 1) := by decide +kernel
theorem d_M_lookAt_59 : decode b_M_lookAt 59 = .ok (.if_icmp .eq 11, 3) := by decide +kernel
theorem d_M_lookAt_62 : decode b_M_lookAt 62 = .ok (.aload_n 0, 1) := by decide +kernel
theorem d_M_lookAt_63 : decode b_M_lookAt 63 = .ok (.iload_n 2, 1) := by decide +kernel
theorem d_M_lookAt_64 : decode b_M_lookAt 64 = .ok (.iload_n 1, 1) := by decide +kernel
theorem d_M_lookAt_65 : decode b_M_lookAt 65 = .ok (.iconst 2, 1) := by decide +kernel
theorem d_M_lookAt_66 : decode b_M_lookAt 66 = .ok (.invokevirtual 163, 3) := by decide +kernel
theorem d_M_lookAt_69 : decode b_M_lookAt 69 = .ok (.return_, 1) := by decide +kernel
theorem d_M_lookAt_70 : decode b_M_lookAt 70 = .ok (.iconst 0, 1) := by decide +kernel
theorem d_M_lookAt_71 : decode b_M_lookAt 71 = .ok (.istore 4, 2) := by decide +kernel
theorem d_M_lookAt_73 : decode b_M_lookAt 73 = .ok (.iconst 0, 1) := by decide +kernel
theorem d_M_lookAt_74 : decode b_M_lookAt 74 = .ok (.istore 5, 2) := by decide +kernel
theorem d_M_lookAt_76 : decode b_M_lookAt 76 = .ok (.iload 5, 2) := by decide +kernel
theorem d_M_lookAt_78 : decode b_M_lookAt 78 = .ok (.iconst 3, 1) := by decide +kernel
theorem d_M_lookAt_79 : decode b_M_lookAt 79 = .ok (.if_icmp .ge 64, 3) := by decide +kernel
theorem d_M_lookAt_82 : decode b_M_lookAt 82 = .ok (.aload_n 0, 1) := by decide +kernel
theorem d_M_lookAt_83 : decode b_M_lookAt 83 = .ok (.iload_n 1, 1) := by decide +kernel
theorem d_M_lookAt_84 : decode b_M_lookAt 84 = .ok (.iload 5, 2) := by decide +kernel
theorem d_M_lookAt_86 : decode b_M_lookAt 86 = .ok (.invokevirtual 167, 3) := by decide +kernel
theorem d_M_lookAt_89 : decode b_M_lookAt 89 = .ok (.ifCond .eq 48, 3) := by decide +kernel
theorem d_M_lookAt_92 : decode b_M_lookAt 92 = .ok (.iconst 3, 1) := by decide +kernel
theorem d_M_lookAt_93 : decode b_M_lookAt 93 = .ok (.iload_n 2, 1) := by decide +kernel
theorem d_M_lookAt_94 : decode b_M_lookAt 94 = .ok (.imul, 1) := by decide +kernel
theorem d_M_lookAt_95 : decode b_M_lookAt 95 = .ok (.iload 5, 2) := by decide +kernel
theorem d_M_lookAt_97 : decode b_M_lookAt 97 = .ok (.iadd, 1) := by decide +kernel
theorem d_M_lookAt_98 : decode b_M_lookAt 98 = .ok (.istore 6, 2) := by decide +kernel
theorem d_M_lookAt_100 : decode b_M_lookAt 100 = .ok (.iinc 4 1, 3) := by decide +kernel
theorem d_M_lookAt_103 : decode b_M_lookAt 103 = .ok (.aload_n 0, 1) := by decide +kernel
theorem d_M_lookAt_104 : decode b_M_lookAt 104 = .ok (.getfield 77, 3) := by decide +kernel
theorem d_M_lookAt_107 : decode b_M_lookAt 107 = .ok (.iload 6, 2) := by decide +kernel
theorem d_M_lookAt_109 : decode b_M_lookAt 109 = .ok (.iaload, 1) := by decide +kernel
theorem d_M_lookAt_110 : decode b_M_lookAt 110 = .ok (.ifCond .lt 26, 3) := by decide +kernel
theorem d_M_lookAt_113 : decode b_M_lookAt 113 = .ok (.aload_n 0, 1) := by decide +kernel
theorem d_M_lookAt_114 : decode b_M_lookAt 114 = .ok (.getfield 77, 3) := by decide +kernel
theorem d_M_lookAt_117 : decode b_M_lookAt 117 = .ok (.iload 6, 2) := by decide +kernel
theorem d_M_lookAt_119 : decode b_M_lookAt 119 = .ok (.iaload, 1) := by decide +kernel
theorem d_M_lookAt_120 : decode b_M_lookAt 120 = .ok (.aload_n 0, 1) := by decide +kernel
theorem d_M_lookAt_121 : decode b_M_lookAt 121 = .ok (.iload 6, 2) := by decide +kernel
theorem d_M_lookAt_123 : decode b_M_lookAt 123 = .ok (.invokevirtual 170, 3) := by decide +kernel
theorem d_M_lookAt_126 : decode b_M_lookAt 126 = .ok (.isub, 1) := by decide +kernel
theorem d_M_lookAt_127 : decode b_M_lookAt 127 = .ok (.aload_n 0, 1) := by decide +kernel
theorem d_M_lookAt_128 : decode b_M_lookAt 128 = .ok (.getfield 25, 3) := by decide +kernel
theorem d_M_lookAt_131 : decode b_M_lookAt 131 = .ok (.iload_n 1, 1) := by decide +kernel
theorem d_M_lookAt_132 : decode b_M_lookAt 132 = .ok (.iaload, 1) := by decide +kernel
theorem d_M_lookAt_133 : decode b_M_lookAt 133 = .ok (.if_icmp .ge 4, 3) := by decide +kernel
theorem d_M_lookAt_136 : decode b_M_lookAt 136 = .ok (.return_, 1) := by decide +kernel
theorem d_M_lookAt_137 : decode b_M_lookAt 137 = .ok (.iinc 5 1, 3) := by decide +kernel
theorem d_M_lookAt_140 : decode b_M_lookAt 140 = .ok (.goto (-64), 3) := by decide +kernel
theorem d_M_lookAt_143 : decode b_M_lookAt 143 = .ok (.iload 4, 2) := by decide +kernel
theorem d_M_lookAt_145 : decode b_M_lookAt 145 = .ok (.ifCond .ne 4, 3) := by decide +kernel
theorem d_M_lookAt_148 : decode b_M_lookAt 148 = .ok (.return_, 1) := by decide +kernel
theorem d_M_lookAt_149 : decode b_M_lookAt 149 = .ok (.iconst 0, 1) := by decide +kernel
theorem d_M_lookAt_150 : decode b_M_lookAt 150 = .ok (.istore 5, 2) := by decide +kernel
theorem d_M_lookAt_152 : decode b_M_lookAt 152 = .ok (.iload 5, 2) := by decide +kernel
theorem d_M_lookAt_154 : decode b_M_lookAt 154 = .ok (.aload_n 0, 1) := by decide +kernel
theorem d_M_lookAt_155 : decode b_M_lookAt 155 = .ok (.getfield 25, 3) := by decide +kernel
theorem d_M_lookAt_158 : decode b_M_lookAt 158 = .ok (.iload_n 1, 1) := by decide +kernel
theorem d_M_lookAt_159 : decode b_M_lookAt 159 = .ok (.iaload, 1) := by decide +kernel
theorem d_M_lookAt_160 : decode b_M_lookAt 160 = .ok (.if_icmp .ge 29, 3) := by decide +kernel
theorem d_M_lookAt_163 : decode b_M_lookAt 163 = .ok (.aload_n 0, 1) := by decide +kernel
theorem d_M_lookAt_164 : decode b_M_lookAt 164 = .ok (.getfield 53, 3) := by decide +kernel
theorem d_M_lookAt_167 : decode b_M_lookAt 167 = .ok (.bipush 32, 2) := by decide +kernel
theorem d_M_lookAt_169 : decode b_M_lookAt 169 = .ok (.iload_n 1, 1) := by decide +kernel
theorem d_M_lookAt_170 : decode b_M_lookAt 170 = .ok (.imul, 1) := by decide +kernel
theorem d_M_lookAt_171 : decode b_M_lookAt 171 = .ok (.iload 5, 2) := by decide +kernel
theorem d_M_lookAt_173 : decode b_M_lookAt 173 = .ok (.iadd, 1) := by decide +kernel
theorem d_M_lookAt_174 : decode b_M_lookAt 174 = .ok (.aload_n 0, 1) := by decide +kernel
theorem d_M_lookAt_175 : decode b_M_lookAt 175 = .ok (.iload_n 2, 1) := by decide +kernel
theorem d_M_lookAt_176 : decode b_M_lookAt 176 = .ok (.iload_n 1, 1) := by decide +kernel
theorem d_M_lookAt_177 : decode b_M_lookAt 177 = .ok (.iload 5, 2) := by decide +kernel
theorem d_M_lookAt_179 : decode b_M_lookAt 179 = .ok (.invokevirtual 160, 3) := by decide +kernel
theorem d_M_lookAt_182 : decode b_M_lookAt 182 = .ok (.iastore, 1) := by decide +kernel
theorem d_M_lookAt_183 : decode b_M_lookAt 183 = .ok (.iinc 5 1, 3) := by decide +kernel
theorem d_M_lookAt_186 : decode b_M_lookAt 186 = .ok (.goto (-34), 3) := by decide +kernel
theorem d_M_lookAt_189 : decode b_M_lookAt 189 = .ok (.iconst 0, 1) := by decide +kernel
theorem d_M_lookAt_190 : decode b_M_lookAt 190 = .ok (.istore 5, 2) := by decide +kernel
theorem d_M_lookAt_192 : decode b_M_lookAt 192 = .ok (.iload 5, 2) := by decide +kernel
theorem d_M_lookAt_194 : decode b_M_lookAt 194 = .ok (.iconst 3, 1) := by decide +kernel
theorem d_M_lookAt_195 : decode b_M_lookAt 195 = .ok (.if_icmp .ge 57, 3) := by decide +kernel
theorem d_M_lookAt_198 : decode b_M_lookAt 198 = .ok (.aload_n 0, 1) := by decide +kernel
theorem d_M_lookAt_199 : decode b_M_lookAt 199 = .ok (.iload_n 1, 1) := by decide +kernel
theorem d_M_lookAt_200 : decode b_M_lookAt 200 = .ok (.iload 5, 2) := by decide +kernel
theorem d_M_lookAt_202 : decode b_M_lookAt 202 = .ok (.invokevirtual 167, 3) := by decide +kernel
theorem d_M_lookAt_205 : decode b_M_lookAt 205 = .ok (.ifCond .eq 41, 3) := by decide +kernel
theorem d_M_lookAt_208 : decode b_M_lookAt 208 = .ok (.iconst 3, 1) := by decide +kernel
theorem d_M_lookAt_209 : decode b_M_lookAt 209 = .ok (.iload_n 2, 1) := by decide +kernel
theorem d_M_lookAt_210 : decode b_M_lookAt 210 = .ok (.imul, 1) := by decide +kernel
theorem d_M_lookAt_211 : decode b_M_lookAt 211 = .ok (.iload 5, 2) := by decide +kernel
theorem d_M_lookAt_213 : decode b_M_lookAt 213 = .ok (.iadd, 1) := by decide +kernel
theorem d_M_lookAt_214 : decode b_M_lookAt 214 = .ok (.istore 6, 2) := by decide +kernel
theorem d_M_lookAt_216 : decode b_M_lookAt 216 = .ok (.aload_n 0, 1) := by decide +kernel
theorem d_M_lookAt_217 : decode b_M_lookAt 217 = .ok (.getfield 83, 3) := by decide +kernel
theorem d_M_lookAt_220 : decode b_M_lookAt 220 = .ok (.bipush 16, 2) := by decide +kernel
theorem d_M_lookAt_222 : decode b_M_lookAt 222 = .ok (.iload 6, 2) := by decide +kernel
theorem d_M_lookAt_224 : decode b_M_lookAt 224 = .ok (.imul, 1) := by decide +kernel
theorem d_M_lookAt_225 : decode b_M_lookAt 225 = .ok (.aload_n 0, 1) := by decide +kernel
theorem d_M_lookAt_226 : decode b_M_lookAt 226 = .ok (.getfield 80, 3) := by decide +kernel
theorem d_M_lookAt_229 : decode b_M_lookAt 229 = .ok (.iload 6, 2) := by decide +kernel
theorem d_M_lookAt_231 : decode b_M_lookAt 231 = .ok (.iaload, 1) := by decide +kernel
theorem d_M_lookAt_232 : decode b_M_lookAt 232 = .ok (.iadd, 1) := by decide +kernel
theorem d_M_lookAt_233 : decode b_M_lookAt 233 = .ok (.iload_n 1, 1) := by decide +kernel
theorem d_M_lookAt_234 : decode b_M_lookAt 234 = .ok (.iastore, 1) := by decide +kernel
theorem d_M_lookAt_235 : decode b_M_lookAt 235 = .ok (.aload_n 0, 1) := by decide +kernel
theorem d_M_lookAt_236 : decode b_M_lookAt 236 = .ok (.getfield 80, 3) := by decide +kernel
theorem d_M_lookAt_239 : decode b_M_lookAt 239 = .ok (.iload 6, 2) := by decide +kernel
theorem d_M_lookAt_241 : decode b_M_lookAt 241 = .ok (.dup2, 1) := by decide +kernel
theorem d_M_lookAt_242 : decode b_M_lookAt 242 = .ok (.iaload, 1) := by decide +kernel
theorem d_M_lookAt_243 : decode b_M_lookAt 243 = .ok (.iconst 1, 1) := by decide +kernel
theorem d_M_lookAt_244 : decode b_M_lookAt 244 = .ok (.iadd, 1) := by decide +kernel
theorem d_M_lookAt_245 : decode b_M_lookAt 245 = .ok (.iastore, 1) := by decide +kernel
theorem d_M_lookAt_246 : decode b_M_lookAt 246 = .ok (.iinc 5 1, 3) := by decide +kernel
theorem d_M_lookAt_249 : decode b_M_lookAt 249 = .ok (.goto (-57), 3) := by decide +kernel
theorem d_M_lookAt_252 : decode b_M_lookAt 252 = .ok (.aload_n 0, 1) := by decide +kernel
theorem d_M_lookAt_253 : decode b_M_lookAt 253 = .ok (.iload_n 2, 1) := by decide +kernel
theorem d_M_lookAt_254 : decode b_M_lookAt 254 = .ok (.iload_n 1, 1) := by decide +kernel
theorem d_M_lookAt_255 : decode b_M_lookAt 255 = .ok (.iconst 1, 1) := by decide +kernel
theorem d_M_lookAt_256 : decode b_M_lookAt 256 = .ok (.invokevirtual 163, 3) := by decide +kernel
theorem d_M_lookAt_259 : decode b_M_lookAt 259 = .ok (.return_, 1) := by decide +kernel
theorem d_M_lookAll_0 : decode b_M_lookAll 0 = .ok (.iconst 0, 1) := by decide +kernel
theorem d_M_lookAll_1 : decode b_M_lookAll 1 = .ok (.istore_n 2, 1) := by decide +kernel
theorem d_M_lookAll_2 : decode b_M_lookAll 2 = .ok (.iload_n 2, 1) := by decide +kernel
theorem d_M_lookAll_3 : decode b_M_lookAll 3 = .ok (.aload_n 0, 1) := by decide +kernel
theorem d_M_lookAll_4 : decode b_M_lookAll 4 = .ok (.getfield 112, 3) := by decide +kernel
theorem d_M_lookAll_7 : decode b_M_lookAll 7 = .ok (.if_icmp .ge 24, 3) := by decide +kernel
theorem d_M_lookAll_10 : decode b_M_lookAll 10 = .ok (.aload_n 0, 1) := by decide +kernel
theorem d_M_lookAll_11 : decode b_M_lookAll 11 = .ok (.getfield 34, 3) := by decide +kernel
theorem d_M_lookAll_14 : decode b_M_lookAll 14 = .ok (.iload_n 2, 1) := by decide +kernel
theorem d_M_lookAll_15 : decode b_M_lookAll 15 = .ok (.iaload, 1) := by decide +kernel
theorem d_M_lookAll_16 : decode b_M_lookAll 16 = .ok (.iload_n 1, 1) := by decide +kernel
theorem d_M_lookAll_17 : decode b_M_lookAll 17 = .ok (.if_icmp .ne 8, 3) := by decide +kernel
theorem d_M_lookAll_20 : decode b_M_lookAll 20 = .ok (.aload_n 0, 1) := by decide +kernel
theorem d_M_lookAll_21 : decode b_M_lookAll 21 = .ok (.iload_n 2, 1) := by decide +kernel
theorem d_M_lookAll_22 : decode b_M_lookAll 22 = .ok (.invokevirtual 173, 3) := by decide +kernel
theorem d_M_lookAll_25 : decode b_M_lookAll 25 = .ok (.iinc 2 1, 3) := by decide +kernel
theorem d_M_lookAll_28 : decode b_M_lookAll 28 = .ok (.goto (-26), 3) := by decide +kernel
theorem d_M_lookAll_31 : decode b_M_lookAll 31 = .ok (.return_, 1) := by decide +kernel
theorem d_M_household_0 : decode b_M_household 0 = .ok (.aload_n 0, 1) := by decide +kernel
theorem d_M_household_1 : decode b_M_household 1 = .ok (.iload_n 1, 1) := by decide +kernel
theorem d_M_household_2 : decode b_M_household 2 = .ok (.invokestatic 119, 3) := by decide +kernel
theorem d_M_household_5 : decode b_M_household 5 = .ok (.ifCond .eq 25, 3) := by decide +kernel
theorem d_M_household_8 : decode b_M_household 8 = .ok (.iload_n 2, 1) := by decide +kernel
theorem d_M_household_9 : decode b_M_household 9 = .ok (.iconst 2, 1) := by decide +kernel
theorem d_M_household_10 : decode b_M_household 10 = .ok (.invokestatic 108, 3) := by decide +kernel
theorem d_M_household_13 : decode b_M_household 13 = .ok (.ifCond .eq 17, 3) := by decide +kernel
theorem d_M_household_16 : decode b_M_household 16 = .ok (.iload_n 3, 1) := by decide +kernel
theorem d_M_household_17 : decode b_M_household 17 = .ok (.sipush 200, 3) := by decide +kernel
theorem d_M_household_20 : decode b_M_household 20 = .ok (.invokestatic 108, 3) := by decide +kernel
theorem d_M_household_23 : decode b_M_household 23 = .ok (.ifCond .eq 7, 3) := by decide +kernel
theorem d_M_household_26 : decode b_M_household 26 = .ok (.iconst 0, 1) := by decide +kernel
theorem d_M_household_27 : decode b_M_household 27 = .ok (.goto 4, 3) := by decide +kernel
theorem d_M_household_30 : decode b_M_household 30 = .ok (.iconst 1, 1) := by decide +kernel
theorem d_M_household_31 : decode b_M_household 31 = .ok (.putfield 104, 3) := by decide +kernel
theorem d_M_household_34 : decode b_M_household 34 = .ok (.aload_n 0, 1) := by decide +kernel
theorem d_M_household_35 : decode b_M_household 35 = .ok (.getfield 104, 3) := by decide +kernel
theorem d_M_household_38 : decode b_M_household 38 = .ok (.ifCond .eq 4, 3) := by decide +kernel
theorem d_M_household_41 : decode b_M_household 41 = .ok (.return_, 1) := by decide +kernel
theorem d_M_household_42 : decode b_M_household 42 = .ok (.aload_n 0, 1) := by decide +kernel
theorem d_M_household_43 : decode b_M_household 43 = .ok (.getfield 77, 3) := by decide +kernel
theorem d_M_household_46 : decode b_M_household 46 = .ok (.iconst 3, 1) := by decide +kernel
theorem d_M_household_47 : decode b_M_household 47 = .ok (.iload_n 1, 1) := by decide +kernel
theorem d_M_household_48 : decode b_M_household 48 = .ok (.imul, 1) := by decide +kernel
theorem d_M_household_49 : decode b_M_household 49 = .ok (.iload_n 2, 1) := by decide +kernel
theorem d_M_household_50 : decode b_M_household 50 = .ok (.iadd, 1) := by decide +kernel
theorem d_M_household_51 : decode b_M_household 51 = .ok (.iload_n 3, 1) := by decide +kernel
theorem d_M_household_52 : decode b_M_household 52 = .ok (.iastore, 1) := by decide +kernel
theorem d_M_household_53 : decode b_M_household 53 = .ok (.aload_n 0, 1) := by decide +kernel
theorem d_M_household_54 : decode b_M_household 54 = .ok (.iload_n 1, 1) := by decide +kernel
theorem d_M_household_55 : decode b_M_household 55 = .ok (.invokevirtual 177, 3) := by decide +kernel
theorem d_M_household_58 : decode b_M_household 58 = .ok (.return_, 1) := by decide +kernel
theorem d_M_group_0 : decode b_M_group 0 = .ok (.aload_n 0, 1) := by decide +kernel
theorem d_M_group_1 : decode b_M_group 1 = .ok (.iload_n 1, 1) := by decide +kernel
theorem d_M_group_2 : decode b_M_group 2 = .ok (.invokestatic 119, 3) := by decide +kernel
theorem d_M_group_5 : decode b_M_group 5 = .ok (.ifCond .eq 23, 3) := by decide +kernel
theorem d_M_group_8 : decode b_M_group 8 = .ok (.iload_n 2, 1) := by decide +kernel
theorem d_M_group_9 : decode b_M_group 9 = .ok (.iconst 1, 1) := by decide +kernel
theorem d_M_group_10 : decode b_M_group 10 = .ok (.invokestatic 108, 3) := by decide +kernel
theorem d_M_group_13 : decode b_M_group 13 = .ok (.ifCond .eq 15, 3) := by decide +kernel
theorem d_M_group_16 : decode b_M_group 16 = .ok (.iload_n 3, 1) := by decide +kernel
theorem d_M_group_17 : decode b_M_group 17 = .ok (.iconst 2, 1) := by decide +kernel
theorem d_M_group_18 : decode b_M_group 18 = .ok (.invokestatic 108, 3) := by decide +kernel
theorem d_M_group_21 : decode b_M_group 21 = .ok (.ifCond .eq 7, 3) := by decide +kernel
theorem d_M_group_24 : decode b_M_group 24 = .ok (.iconst 0, 1) := by decide +kernel
theorem d_M_group_25 : decode b_M_group 25 = .ok (.goto 4, 3) := by decide +kernel
theorem d_M_group_28 : decode b_M_group 28 = .ok (.iconst 1, 1) := by decide +kernel
theorem d_M_group_29 : decode b_M_group 29 = .ok (.putfield 104, 3) := by decide +kernel
theorem d_M_group_32 : decode b_M_group 32 = .ok (.aload_n 0, 1) := by decide +kernel
theorem d_M_group_33 : decode b_M_group 33 = .ok (.getfield 104, 3) := by decide +kernel
theorem d_M_group_36 : decode b_M_group 36 = .ok (.ifCond .eq 5, 3) := by decide +kernel
theorem d_M_group_39 : decode b_M_group 39 = .ok (.iconst 0, 1) := by decide +kernel
theorem d_M_group_40 : decode b_M_group 40 = .ok (.ireturn, 1) := by decide +kernel
theorem d_M_group_41 : decode b_M_group 41 = .ok (.bipush 6, 2) := by decide +kernel
theorem d_M_group_43 : decode b_M_group 43 = .ok (.iload_n 1, 1) := by decide +kernel
theorem d_M_group_44 : decode b_M_group 44 = .ok (.imul, 1) := by decide +kernel
theorem d_M_group_45 : decode b_M_group 45 = .ok (.iconst 3, 1) := by decide +kernel
theorem d_M_group_46 : decode b_M_group 46 = .ok (.iload_n 2, 1) := by decide +kernel
theorem d_M_group_47 : decode b_M_group 47 = .ok (.imul, 1) := by decide +kernel
theorem d_M_group_48 : decode b_M_group 48 = .ok (.iadd, 1) := by decide +kernel
theorem d_M_group_49 : decode b_M_group 49 = .ok (.iload_n 3, 1) := by decide +kernel
theorem d_M_group_50 : decode b_M_group 50 = .ok (.iadd, 1) := by decide +kernel
theorem d_M_group_51 : decode b_M_group 51 = .ok (.istore 4, 2) := by decide +kernel
theorem d_M_group_53 : decode b_M_group 53 = .ok (.aload_n 0, 1) := by decide +kernel
theorem d_M_group_54 : decode b_M_group 54 = .ok (.getfield 86, 3) := by decide +kernel
theorem d_M_group_57 : decode b_M_group 57 = .ok (.iload 4, 2) := by decide +kernel
theorem d_M_group_59 : decode b_M_group 59 = .ok (.aload_n 0, 1) := by decide +kernel
theorem d_M_group_60 : decode b_M_group 60 = .ok (.getfield 86, 3) := by decide +kernel
theorem d_M_group_63 : decode b_M_group 63 = .ok (.iload 4, 2) := by decide +kernel
theorem d_M_group_65 : decode b_M_group 65 = .ok (.baload, 1) := by decide +kernel
theorem d_M_group_66 : decode b_M_group 66 = .ok (.ifCond .ne 7, 3) := by decide +kernel
theorem d_M_group_69 : decode b_M_group 69 = .ok (.iconst 1, 1) := by decide +kernel
theorem d_M_group_70 : decode b_M_group 70 = .ok (.goto 4, 3) := by decide +kernel
theorem d_M_group_73 : decode b_M_group 73 = .ok (.iconst 0, 1) := by decide +kernel
theorem d_M_group_74 : decode b_M_group 74 = .ok (.bastore, 1) := by decide +kernel
theorem d_M_group_75 : decode b_M_group 75 = .ok (.aload_n 0, 1) := by decide +kernel
theorem d_M_group_76 : decode b_M_group 76 = .ok (.getfield 86, 3) := by decide +kernel
theorem d_M_group_79 : decode b_M_group 79 = .ok (.iload 4, 2) := by decide +kernel
theorem d_M_group_81 : decode b_M_group 81 = .ok (.baload, 1) := by decide +kernel
theorem d_M_group_82 : decode b_M_group 82 = .ok (.ifCond .eq 8, 3) := by decide +kernel
theorem d_M_group_85 : decode b_M_group 85 = .ok (.aload_n 0, 1) := by decide +kernel
theorem d_M_group_86 : decode b_M_group 86 = .ok (.iload_n 1, 1) := by decide +kernel
theorem d_M_group_87 : decode b_M_group 87 = .ok (.invokevirtual 177, 3) := by decide +kernel
theorem d_M_group_90 : decode b_M_group 90 = .ok (.aload_n 0, 1) := by decide +kernel
theorem d_M_group_91 : decode b_M_group 91 = .ok (.getfield 86, 3) := by decide +kernel
theorem d_M_group_94 : decode b_M_group 94 = .ok (.iload 4, 2) := by decide +kernel
theorem d_M_group_96 : decode b_M_group 96 = .ok (.baload, 1) := by decide +kernel
theorem d_M_group_97 : decode b_M_group 97 = .ok (.ireturn, 1) := by decide +kernel
theorem d_M_key_0 : decode b_M_key 0 = .ok (.aload_n 0, 1) := by decide +kernel
theorem d_M_key_1 : decode b_M_key 1 = .ok (.iconst 0, 1) := by decide +kernel
theorem d_M_key_2 : decode b_M_key 2 = .ok (.putfield 104, 3) := by decide +kernel
theorem d_M_key_5 : decode b_M_key 5 = .ok (.aload_n 0, 1) := by decide +kernel
theorem d_M_key_6 : decode b_M_key 6 = .ok (.getfield 180, 3) := by decide +kernel
theorem d_M_key_9 : decode b_M_key 9 = .ok (.bipush 32, 2) := by decide +kernel
theorem d_M_key_11 : decode b_M_key 11 = .ok (.if_icmp .ne 5, 3) := by decide +kernel
theorem d_M_key_14 : decode b_M_key 14 = .ok (.iconst 0, 1) := by decide +kernel
theorem d_M_key_15 : decode b_M_key 15 = .ok (.ireturn, 1) := by decide +kernel
theorem d_M_key_16 : decode b_M_key 16 = .ok (.aload_n 0, 1) := by decide +kernel
theorem d_M_key_17 : decode b_M_key 17 = .ok (.getfield 89, 3) := by decide +kernel
theorem d_M_key_20 : decode b_M_key 20 = .ok (.aload_n 0, 1) := by decide +kernel
theorem d_M_key_21 : decode b_M_key 21 = .ok (.getfield 180, 3) := by decide +kernel
theorem d_M_key_24 : decode b_M_key 24 = .ok (.iload_n 1, 1) := by decide +kernel
theorem d_M_key_25 : decode b_M_key 25 = .ok (.sipush 255, 3) := by decide +kernel
theorem d_M_key_28 : decode b_M_key 28 = .ok (.iand, 1) := by decide +kernel
theorem d_M_key_29 : decode b_M_key 29 = .ok (.iastore, 1) := by decide +kernel
theorem d_M_key_30 : decode b_M_key 30 = .ok (.aload_n 0, 1) := by decide +kernel
theorem d_M_key_31 : decode b_M_key 31 = .ok (.dup, 1) := by decide +kernel
theorem d_M_key_32 : decode b_M_key 32 = .ok (.getfield 180, 3) := by decide +kernel
theorem d_M_key_35 : decode b_M_key 35 = .ok (.iconst 1, 1) := by decide +kernel
theorem d_M_key_36 : decode b_M_key 36 = .ok (.iadd, 1) := by decide +kernel
theorem d_M_key_37 : decode b_M_key 37 = .ok (.putfield 180, 3) := by decide +kernel
theorem d_M_key_40 : decode b_M_key 40 = .ok (.iconst 1, 1) := by decide +kernel
theorem d_M_key_41 : decode b_M_key 41 = .ok (.ireturn, 1) := by decide +kernel
theorem d_M_post_0 : decode b_M_post 0 = .ok (.iload_n 1, 1) := by decide +kernel
theorem d_M_post_1 : decode b_M_post 1 = .ok (.invokestatic 119, 3) := by decide +kernel
theorem d_M_post_4 : decode b_M_post 4 = .ok (.ifCond .eq 38, 3) := by decide +kernel
theorem d_M_post_7 : decode b_M_post 7 = .ok (.iload_n 2, 1) := by decide +kernel
theorem d_M_post_8 : decode b_M_post 8 = .ok (.invokestatic 119, 3) := by decide +kernel
theorem d_M_post_11 : decode b_M_post 11 = .ok (.ifCond .eq 31, 3) := by decide +kernel
theorem d_M_post_14 : decode b_M_post 14 = .ok (.iload_n 3, 1) := by decide +kernel
theorem d_M_post_15 : decode b_M_post 15 = .ok (.iconst 4, 1) := by decide +kernel
theorem d_M_post_16 : decode b_M_post 16 = .ok (.invokestatic 108, 3) := by decide +kernel
theorem d_M_post_19 : decode b_M_post 19 = .ok (.ifCond .eq 23, 3) := by decide +kernel
theorem d_M_post_22 : decode b_M_post 22 = .ok (.iload 4, 2) := by decide +kernel
theorem d_M_post_24 : decode b_M_post 24 = .ok (.iconst 2, 1) := by decide +kernel
theorem d_M_post_25 : decode b_M_post 25 = .ok (.invokestatic 108, 3) := by decide +kernel
theorem d_M_post_28 : decode b_M_post 28 = .ok (.ifCond .eq 14, 3) := by decide +kernel
theorem d_M_post_31 : decode b_M_post 31 = .ok (.aload_n 0, 1) := by decide +kernel
theorem d_M_post_32 : decode b_M_post 32 = .ok (.getfield 180, 3) := by decide +kernel
theorem d_M_post_35 : decode b_M_post 35 = .ok (.ifCond .le 7, 3) := by decide +kernel
theorem d_M_post_38 : decode b_M_post 38 = .ok (.iconst 1, 1) := by decide +kernel
theorem d_M_post_39 : decode b_M_post 39 = .ok (.goto 4, 3) := by decide +kernel
theorem d_M_post_42 : decode b_M_post 42 = .ok (.iconst 0, 1) := by decide +kernel
theorem d_M_post_43 : decode b_M_post 43 = .ok (.istore 5, 2) := by decide +kernel
theorem d_M_post_45 : decode b_M_post 45 = .ok (.aload_n 0, 1) := by decide +kernel
theorem d_M_post_46 : decode b_M_post 46 = .ok (.iload 5, 2) := by decide +kernel
theorem d_M_post_48 : decode b_M_post 48 = .ok (.ifCond .ne 7, 3) := by decide +kernel
theorem d_M_post_51 : decode b_M_post 51 = .ok (.iconst 1, 1) := by decide +kernel
theorem d_M_post_52 : decode b_M_post 52 = .ok (.goto 35, 3) := by decide +kernel
theorem d_M_post_55 : decode b_M_post 55 = .ok (.aload_n 0, 1) := by decide +kernel
theorem d_M_post_56 : decode b_M_post 56 = .ok (.getfield 112, 3) := by decide +kernel
theorem d_M_post_59 : decode b_M_post 59 = .ok (.bipush 16, 2) := by decide +kernel
theorem d_M_post_61 : decode b_M_post 61 = .ok (.if_icmp .eq 21, 3) := by decide +kernel
theorem d_M_post_64 : decode b_M_post 64 = .ok (.aload_n 0, 1) := by decide +kernel
theorem d_M_post_65 : decode b_M_post 65 = .ok (.iload_n 1, 1) := by decide +kernel
theorem d_M_post_66 : decode b_M_post 66 = .ok (.invokevirtual 183, 3) := by decide +kernel
theorem d_M_post_69 : decode b_M_post 69 = .ok (.aload_n 0, 1) := by decide +kernel
theorem d_M_post_70 : decode b_M_post 70 = .ok (.getfield 180, 3) := by decide +kernel
theorem d_M_post_73 : decode b_M_post 73 = .ok (.bipush 7, 2) := by decide +kernel
theorem d_M_post_75 : decode b_M_post 75 = .ok (.iadd, 1) := by decide +kernel
theorem d_M_post_76 : decode b_M_post 76 = .ok (.bipush 8, 2) := by decide +kernel
theorem d_M_post_78 : decode b_M_post 78 = .ok (.idiv, 1) := by decide +kernel
theorem d_M_post_79 : decode b_M_post 79 = .ok (.if_icmp .ge 7, 3) := by decide +kernel
theorem d_M_post_82 : decode b_M_post 82 = .ok (.iconst 2, 1) := by decide +kernel
theorem d_M_post_83 : decode b_M_post 83 = .ok (.goto 4, 3) := by decide +kernel
theorem d_M_post_86 : decode b_M_post 86 = .ok (.iconst 0, 1) := by decide +kernel
theorem d_M_post_87 : decode b_M_post 87 = .ok (.putfield 104, 3) := by decide +kernel
theorem d_M_post_90 : decode b_M_post 90 = .ok (.aload_n 0, 1) := by decide +kernel
theorem d_M_post_91 : decode b_M_post 91 = .ok (.getfield 104, 3) := by decide +kernel
theorem d_M_post_94 : decode b_M_post 94 = .ok (.ifCond .eq 5, 3) := by decide +kernel
theorem d_M_post_97 : decode b_M_post 97 = .ok (.iconst 0, 1) := by decide +kernel
theorem d_M_post_98 : decode b_M_post 98 = .ok (.ireturn, 1) := by decide +kernel
theorem d_M_post_99 : decode b_M_post 99 = .ok (.aload_n 0, 1) := by decide +kernel
theorem d_M_post_100 : decode b_M_post 100 = .ok (.getfield 112, 3) := by decide +kernel
theorem d_M_post_103 : decode b_M_post 103 = .ok (.istore 6, 2) := by decide +kernel
theorem d_M_post_105 : decode b_M_post 105 = .ok (.aload_n 0, 1) := by decide +kernel
theorem d_M_post_106 : decode b_M_post 106 = .ok (.dup, 1) := by decide +kernel
theorem d_M_post_107 : decode b_M_post 107 = .ok (.getfield 112, 3) := by decide +kernel
theorem d_M_post_110 : decode b_M_post 110 = .ok (.iconst 1, 1) := by decide +kernel
theorem d_M_post_111 : decode b_M_post 111 = .ok (.iadd, 1) := by decide +kernel
theorem d_M_post_112 : decode b_M_post 112 = .ok (.putfield 112, 3) := by decide +kernel
theorem d_M_post_115 : decode b_M_post 115 = .ok (.aload_n 0, 1) := by decide +kernel
theorem d_M_post_116 : decode b_M_post 116 = .ok (.getfield 25, 3) := by decide +kernel
theorem d_M_post_119 : decode b_M_post 119 = .ok (.iload 6, 2) := by decide +kernel
theorem d_M_post_121 : decode b_M_post 121 = .ok (.aload_n 0, 1) := by decide +kernel
theorem d_M_post_122 : decode b_M_post 122 = .ok (.getfield 180, 3) := by decide +kernel
theorem d_M_post_125 : decode b_M_post 125 = .ok (.iastore, 1) := by decide +kernel
theorem d_M_post_126 : decode b_M_post 126 = .ok (.aload_n 0, 1) := by decide +kernel
theorem d_M_post_127 : decode b_M_post 127 = .ok (.getfield 28, 3) := by decide +kernel
theorem d_M_post_130 : decode b_M_post 130 = .ok (.iload 6, 2) := by decide +kernel
theorem d_M_post_132 : decode b_M_post 132 = .ok (.iload 4, 2) := by decide +kernel
theorem d_M_post_134 : decode b_M_post 134 = .ok (.iastore, 1) := by decide +kernel
theorem d_M_post_135 : decode b_M_post 135 = .ok (.aload_n 0, 1) := by decide +kernel
theorem d_M_post_136 : decode b_M_post 136 = .ok (.getfield 31, 3) := by decide +kernel
theorem d_M_post_139 : decode b_M_post 139 = .ok (.iload 6, 2) := by decide +kernel
theorem d_M_post_141 : decode b_M_post 141 = .ok (.iload_n 1, 1) := by decide +kernel
theorem d_M_post_142 : decode b_M_post 142 = .ok (.iastore, 1) := by decide +kernel
theorem d_M_post_143 : decode b_M_post 143 = .ok (.aload_n 0, 1) := by decide +kernel
theorem d_M_post_144 : decode b_M_post 144 = .ok (.getfield 34, 3) := by decide +kernel
theorem d_M_post_147 : decode b_M_post 147 = .ok (.iload 6, 2) := by decide +kernel
theorem d_M_post_149 : decode b_M_post 149 = .ok (.iload_n 2, 1) := by decide +kernel
theorem d_M_post_150 : decode b_M_post 150 = .ok (.iastore, 1) := by decide +kernel
theorem d_M_post_151 : decode b_M_post 151 = .ok (.aload_n 0, 1) := by decide +kernel
theorem d_M_post_152 : decode b_M_post 152 = .ok (.getfield 37, 3) := by decide +kernel
theorem d_M_post_155 : decode b_M_post 155 = .ok (.iload 6, 2) := by decide +kernel
theorem d_M_post_157 : decode b_M_post 157 = .ok (.iload_n 3, 1) := by decide +kernel
theorem d_M_post_158 : decode b_M_post 158 = .ok (.iastore, 1) := by decide +kernel
theorem d_M_post_159 : decode b_M_post 159 = .ok (.aload_n 0, 1) := by decide +kernel
theorem d_M_post_160 : decode b_M_post 160 = .ok (.getfield 40, 3) := by decide +kernel
theorem d_M_post_163 : decode b_M_post 163 = .ok (.iload 6, 2) := by decide +kernel
theorem d_M_post_165 : decode b_M_post 165 = .ok (.aload_n 0, 1) := by decide +kernel
theorem d_M_post_166 : decode b_M_post 166 = .ok (.getfield 186, 3) := by decide +kernel
theorem d_M_post_169 : decode b_M_post 169 = .ok (.iastore, 1) := by decide +kernel
theorem d_M_post_170 : decode b_M_post 170 = .ok (.aload_n 0, 1) := by decide +kernel
theorem d_M_post_171 : decode b_M_post 171 = .ok (.getfield 43, 3) := by decide +kernel
theorem d_M_post_174 : decode b_M_post 174 = .ok (.iload 6, 2) := by decide +kernel
theorem d_M_post_176 : decode b_M_post 176 = .ok (.iconst 0, 1) := by decide +kernel
theorem d_M_post_177 : decode b_M_post 177 = .ok (.iastore, 1) := by decide +kernel
theorem d_M_post_178 : decode b_M_post 178 = .ok (.iconst 0, 1) := by decide +kernel
theorem d_M_post_179 : decode b_M_post 179 = .ok (.istore 7, 2) := by decide +kernel
theorem d_M_post_181 : decode b_M_post 181 = .ok (.iload 7, 2) := by decide +kernel
theorem d_M_post_183 : decode b_M_post 183 = .ok (.aload_n 0, 1) := by decide +kernel
theorem d_M_post_184 : decode b_M_post 184 = .ok (.getfield 180, 3) := by decide +kernel
theorem d_M_post_187 : decode b_M_post 187 = .ok (.if_icmp .ge 86, 3) := by decide +kernel
theorem d_M_post_190 : decode b_M_post 190 = .ok (.aload_n 0, 1) := by decide +kernel
theorem d_M_post_191 : decode b_M_post 191 = .ok (.getfield 43, 3) := by decide +kernel
theorem d_M_post_194 : decode b_M_post 194 = .ok (.iload 6, 2) := by decide +kernel
theorem d_M_post_196 : decode b_M_post 196 = .ok (.aload_n 0, 1) := by decide +kernel
theorem d_M_post_197 : decode b_M_post 197 = .ok (.getfield 43, 3) := by decide +kernel
theorem d_M_post_200 : decode b_M_post 200 = .ok (.iload 6, 2) := by decide +kernel
theorem d_M_post_202 : decode b_M_post 202 = .ok (.iaload, 1) := by decide +kernel
theorem d_M_post_203 : decode b_M_post 203 = .ok (.invokestatic 157, 3) := by decide +kernel
theorem d_M_post_206 : decode b_M_post 206 = .ok (.aload_n 0, 1) := by decide +kernel
theorem d_M_post_207 : decode b_M_post 207 = .ok (.getfield 89, 3) := by decide +kernel
theorem d_M_post_210 : decode b_M_post 210 = .ok (.iload 7, 2) := by decide +kernel
theorem d_M_post_212 : decode b_M_post 212 = .ok (.iaload, 1) := by decide +kernel
theorem d_M_post_213 : decode b_M_post 213 = .ok (.ixor, 1) := by decide +kernel
theorem d_M_post_214 : decode b_M_post 214 = .ok (.iastore, 1) := by decide +kernel
theorem d_M_post_215 : decode b_M_post 215 = .ok (.iload_n 1, 1) := by decide +kernel
theorem d_M_post_216 : decode b_M_post 216 = .ok (.iload 6, 2) := by decide +kernel
theorem d_M_post_218 : decode b_M_post 218 = .ok (.iload 7, 2) := by decide +kernel
theorem d_M_post_220 : decode b_M_post 220 = .ok (.bipush 8, 2) := by decide +kernel
theorem d_M_post_222 : decode b_M_post 222 = .ok (.idiv, 1) := by decide +kernel
theorem d_M_post_223 : decode b_M_post 223 = .ok (.invokestatic 146, 3) := by decide +kernel
theorem d_M_post_226 : decode b_M_post 226 = .ok (.istore 8, 2) := by decide +kernel
theorem d_M_post_228 : decode b_M_post 228 = .ok (.aload_n 0, 1) := by decide +kernel
theorem d_M_post_229 : decode b_M_post 229 = .ok (.getfield 56, 3) := by decide +kernel
theorem d_M_post_232 : decode b_M_post 232 = .ok (.iload 8, 2) := by decide +kernel
theorem d_M_post_234 : decode b_M_post 234 = .ok (.iconst 1, 1) := by decide +kernel
theorem d_M_post_235 : decode b_M_post 235 = .ok (.bastore, 1) := by decide +kernel
theorem d_M_post_236 : decode b_M_post 236 = .ok (.aload_n 0, 1) := by decide +kernel
theorem d_M_post_237 : decode b_M_post 237 = .ok (.getfield 59, 3) := by decide +kernel
theorem d_M_post_240 : decode b_M_post 240 = .ok (.iload 8, 2) := by decide +kernel
theorem d_M_post_242 : decode b_M_post 242 = .ok (.iconst 0, 1) := by decide +kernel
theorem d_M_post_243 : decode b_M_post 243 = .ok (.iastore, 1) := by decide +kernel
theorem d_M_post_244 : decode b_M_post 244 = .ok (.aload_n 0, 1) := by decide +kernel
theorem d_M_post_245 : decode b_M_post 245 = .ok (.getfield 65, 3) := by decide +kernel
theorem d_M_post_248 : decode b_M_post 248 = .ok (.bipush 8, 2) := by decide +kernel
theorem d_M_post_250 : decode b_M_post 250 = .ok (.iload 8, 2) := by decide +kernel
theorem d_M_post_252 : decode b_M_post 252 = .ok (.imul, 1) := by decide +kernel
theorem d_M_post_253 : decode b_M_post 253 = .ok (.iload 7, 2) := by decide +kernel
theorem d_M_post_255 : decode b_M_post 255 = .ok (.bipush 8, 2) := by decide +kernel
theorem d_M_post_257 : decode b_M_post 257 = .ok (.irem, 1) := by decide +kernel
theorem d_M_post_258 : decode b_M_post 258 = .ok (.iadd, 1) := by decide +kernel
theorem d_M_post_259 : decode b_M_post 259 = .ok (.aload_n 0, 1) := by decide +kernel
theorem d_M_post_260 : decode b_M_post 260 = .ok (.getfield 89, 3) := by decide +kernel
theorem d_M_post_263 : decode b_M_post 263 = .ok (.iload 7, 2) := by decide +kernel
theorem d_M_post_265 : decode b_M_post 265 = .ok (.iaload, 1) := by decide +kernel
theorem d_M_post_266 : decode b_M_post 266 = .ok (.iastore, 1) := by decide +kernel
theorem d_M_post_267 : decode b_M_post 267 = .ok (.iinc 7 1, 3) := by decide +kernel
theorem d_M_post_270 : decode b_M_post 270 = .ok (.goto (-89), 3) := by decide +kernel
theorem d_M_post_273 : decode b_M_post 273 = .ok (.aload_n 0, 1) := by decide +kernel
theorem d_M_post_274 : decode b_M_post 274 = .ok (.iconst 0, 1) := by decide +kernel
theorem d_M_post_275 : decode b_M_post 275 = .ok (.putfield 180, 3) := by decide +kernel
theorem d_M_post_278 : decode b_M_post 278 = .ok (.aload_n 0, 1) := by decide +kernel
theorem d_M_post_279 : decode b_M_post 279 = .ok (.getfield 46, 3) := by decide +kernel
theorem d_M_post_282 : decode b_M_post 282 = .ok (.iload 6, 2) := by decide +kernel
theorem d_M_post_284 : decode b_M_post 284 = .ok (.aload_n 0, 1) := by decide +kernel
theorem d_M_post_285 : decode b_M_post 285 = .ok (.aload_n 0, 1) := by decide +kernel
theorem d_M_post_286 : decode b_M_post 286 = .ok (.getfield 22, 3) := by decide +kernel
theorem d_M_post_289 : decode b_M_post 289 = .ok (.iload_n 1, 1) := by decide +kernel
theorem d_M_post_290 : decode b_M_post 290 = .ok (.iaload, 1) := by decide +kernel
theorem d_M_post_291 : decode b_M_post 291 = .ok (.iload_n 2, 1) := by decide +kernel
theorem d_M_post_292 : decode b_M_post 292 = .ok (.iload_n 1, 1) := by decide +kernel
theorem d_M_post_293 : decode b_M_post 293 = .ok (.aload_n 0, 1) := by decide +kernel
theorem d_M_post_294 : decode b_M_post 294 = .ok (.getfield 186, 3) := by decide +kernel
theorem d_M_post_297 : decode b_M_post 297 = .ok (.invokevirtual 142, 3) := by decide +kernel
theorem d_M_post_300 : decode b_M_post 300 = .ok (.iastore, 1) := by decide +kernel
theorem d_M_post_301 : decode b_M_post 301 = .ok (.aload_n 0, 1) := by decide +kernel
theorem d_M_post_302 : decode b_M_post 302 = .ok (.iload 6, 2) := by decide +kernel
theorem d_M_post_304 : decode b_M_post 304 = .ok (.invokevirtual 173, 3) := by decide +kernel
theorem d_M_post_307 : decode b_M_post 307 = .ok (.iload 6, 2) := by decide +kernel
theorem d_M_post_309 : decode b_M_post 309 = .ok (.ireturn, 1) := by decide +kernel
theorem d_M_expire_0 : decode b_M_expire 0 = .ok (.aload_n 0, 1) := by decide +kernel
theorem d_M_expire_1 : decode b_M_expire 1 = .ok (.getfield 49, 3) := by decide +kernel
theorem d_M_expire_4 : decode b_M_expire 4 = .ok (.iload_n 1, 1) := by decide +kernel
theorem d_M_expire_5 : decode b_M_expire 5 = .ok (.aload_n 0, 1) := by decide +kernel
theorem d_M_expire_6 : decode b_M_expire 6 = .ok (.getfield 68, 3) := by decide +kernel
theorem d_M_expire_9 : decode b_M_expire 9 = .ok (.bipush 16, 2) := by decide +kernel
theorem d_M_expire_11 : decode b_M_expire 11 = .ok (.aload_n 0, 1) := by decide +kernel
theorem d_M_expire_12 : decode b_M_expire 12 = .ok (.getfield 34, 3) := by decide +kernel
theorem d_M_expire_15 : decode b_M_expire 15 = .ok (.iload_n 1, 1) := by decide +kernel
theorem d_M_expire_16 : decode b_M_expire 16 = .ok (.iaload, 1) := by decide +kernel
theorem d_M_expire_17 : decode b_M_expire 17 = .ok (.imul, 1) := by decide +kernel
theorem d_M_expire_18 : decode b_M_expire 18 = .ok (.iload_n 1, 1) := by decide +kernel
theorem d_M_expire_19 : decode b_M_expire 19 = .ok (.iadd, 1) := by decide +kernel
theorem d_M_expire_20 : decode b_M_expire 20 = .ok (.iaload, 1) := by decide +kernel
theorem d_M_expire_21 : decode b_M_expire 21 = .ok (.ifCond .ne 7, 3) := by decide +kernel
theorem d_M_expire_24 : decode b_M_expire 24 = .ok (.iconst 1, 1) := by decide +kernel
theorem d_M_expire_25 : decode b_M_expire 25 = .ok (.goto 4, 3) := by decide +kernel
theorem d_M_expire_28 : decode b_M_expire 28 = .ok (.iconst 0, 1) := by decide +kernel
theorem d_M_expire_29 : decode b_M_expire 29 = .ok (.bastore, 1) := by decide +kernel
theorem d_M_expire_30 : decode b_M_expire 30 = .ok (.iconst 0, 1) := by decide +kernel
theorem d_M_expire_31 : decode b_M_expire 31 = .ok (.istore_n 2, 1) := by decide +kernel
theorem d_M_expire_32 : decode b_M_expire 32 = .ok (.iload_n 2, 1) := by decide +kernel
theorem d_M_expire_33 : decode b_M_expire 33 = .ok (.bipush 12, 2) := by decide +kernel
theorem d_M_expire_35 : decode b_M_expire 35 = .ok (.if_icmp .ge 79, 3) := by decide +kernel
theorem d_M_expire_38 : decode b_M_expire 38 = .ok (.iconst 0, 1) := by decide +kernel
theorem d_M_expire_39 : decode b_M_expire 39 = .ok (.istore_n 3, 1) := by decide +kernel
theorem d_M_expire_40 : decode b_M_expire 40 = .ok (.iconst 0, 1) := by decide +kernel
theorem d_M_expire_41 : decode b_M_expire 41 = .ok (.istore 4, 2) := by decide +kernel
theorem d_M_expire_43 : decode b_M_expire 43 = .ok (.iload 4, 2) := by decide +kernel
theorem d_M_expire_45 : decode b_M_expire 45 = .ok (.iconst 4, 1) := by decide +kernel
theorem d_M_expire_46 : decode b_M_expire 46 = .ok (.if_icmp .ge 39, 3) := by decide +kernel
theorem d_M_expire_49 : decode b_M_expire 49 = .ok (.aload_n 0, 1) := by decide +kernel
theorem d_M_expire_50 : decode b_M_expire 50 = .ok (.getfield 56, 3) := by decide +kernel
theorem d_M_expire_53 : decode b_M_expire 53 = .ok (.iload_n 2, 1) := by decide +kernel
theorem d_M_expire_54 : decode b_M_expire 54 = .ok (.iload_n 1, 1) := by decide +kernel
theorem d_M_expire_55 : decode b_M_expire 55 = .ok (.iload 4, 2) := by decide +kernel
theorem d_M_expire_57 : decode b_M_expire 57 = .ok (.invokestatic 146, 3) := by decide +kernel
theorem d_M_expire_60 : decode b_M_expire 60 = .ok (.baload, 1) := by decide +kernel
theorem d_M_expire_61 : decode b_M_expire 61 = .ok (.ifCond .eq 5, 3) := by decide +kernel
theorem d_M_expire_64 : decode b_M_expire 64 = .ok (.iconst 1, 1) := by decide +kernel
theorem d_M_expire_65 : decode b_M_expire 65 = .ok (.istore_n 3, 1) := by decide +kernel
theorem d_M_expire_66 : decode b_M_expire 66 = .ok (.aload_n 0, 1) := by decide +kernel
theorem d_M_expire_67 : decode b_M_expire 67 = .ok (.getfield 56, 3) := by decide +kernel
theorem d_M_expire_70 : decode b_M_expire 70 = .ok (.iload_n 2, 1) := by decide +kernel
theorem d_M_expire_71 : decode b_M_expire 71 = .ok (.iload_n 1, 1) := by decide +kernel
theorem d_M_expire_72 : decode b_M_expire 72 = .ok (.iload 4, 2) := by decide +kernel
theorem d_M_expire_74 : decode b_M_expire 74 = .ok (.invokestatic 146, 3) := by decide +kernel
theorem d_M_expire_77 : decode b_M_expire 77 = .ok (.iconst 0, 1) := by decide +kernel
theorem d_M_expire_78 : decode b_M_expire 78 = .ok (.bastore, 1) := by decide +kernel
theorem d_M_expire_79 : decode b_M_expire 79 = .ok (.iinc 4 1, 3) := by decide +kernel
theorem d_M_expire_82 : decode b_M_expire 82 = .ok (.goto (-39), 3) := by decide +kernel
theorem d_M_expire_85 : decode b_M_expire 85 = .ok (.iload_n 3, 1) := by decide +kernel
theorem d_M_expire_86 : decode b_M_expire 86 = .ok (.ifCond .eq 22, 3) := by decide +kernel
theorem d_M_expire_89 : decode b_M_expire 89 = .ok (.aload_n 0, 1) := by decide +kernel
theorem d_M_expire_90 : decode b_M_expire 90 = .ok (.getfield 49, 3) := by decide +kernel
theorem d_M_expire_93 : decode b_M_expire 93 = .ok (.iload_n 1, 1) := by decide +kernel
theorem d_M_expire_94 : decode b_M_expire 94 = .ok (.baload, 1) := by decide +kernel
theorem d_M_expire_95 : decode b_M_expire 95 = .ok (.ifCond .eq 13, 3) := by decide +kernel
theorem d_M_expire_98 : decode b_M_expire 98 = .ok (.aload_n 0, 1) := by decide +kernel
theorem d_M_expire_99 : decode b_M_expire 99 = .ok (.getfield 71, 3) := by decide +kernel
theorem d_M_expire_102 : decode b_M_expire 102 = .ok (.iload_n 2, 1) := by decide +kernel
theorem d_M_expire_103 : decode b_M_expire 103 = .ok (.dup2, 1) := by decide +kernel
theorem d_M_expire_104 : decode b_M_expire 104 = .ok (.iaload, 1) := by decide +kernel
theorem d_M_expire_105 : decode b_M_expire 105 = .ok (.iconst 1, 1) := by decide +kernel
theorem d_M_expire_106 : decode b_M_expire 106 = .ok (.iadd, 1) := by decide +kernel
theorem d_M_expire_107 : decode b_M_expire 107 = .ok (.iastore, 1) := by decide +kernel
theorem d_M_expire_108 : decode b_M_expire 108 = .ok (.iinc 2 1, 3) := by decide +kernel
theorem d_M_expire_111 : decode b_M_expire 111 = .ok (.goto (-79), 3) := by decide +kernel
theorem d_M_expire_114 : decode b_M_expire 114 = .ok (.return_, 1) := by decide +kernel
theorem d_M_minute_0 : decode b_M_minute 0 = .ok (.aload_n 0, 1) := by decide +kernel
theorem d_M_minute_1 : decode b_M_minute 1 = .ok (.iload_n 1, 1) := by decide +kernel
theorem d_M_minute_2 : decode b_M_minute 2 = .ok (.iconst 1, 1) := by decide +kernel
theorem d_M_minute_3 : decode b_M_minute 3 = .ok (.if_icmp .lt 14, 3) := by decide +kernel
theorem d_M_minute_6 : decode b_M_minute 6 = .ok (.iload_n 1, 1) := by decide +kernel
theorem d_M_minute_7 : decode b_M_minute 7 = .ok (.sipush 20000, 3) := by decide +kernel
theorem d_M_minute_10 : decode b_M_minute 10 = .ok (.if_icmp .gt 7, 3) := by decide +kernel
theorem d_M_minute_13 : decode b_M_minute 13 = .ok (.iconst 0, 1) := by decide +kernel
theorem d_M_minute_14 : decode b_M_minute 14 = .ok (.goto 4, 3) := by decide +kernel
theorem d_M_minute_17 : decode b_M_minute 17 = .ok (.iconst 1, 1) := by decide +kernel
theorem d_M_minute_18 : decode b_M_minute 18 = .ok (.putfield 104, 3) := by decide +kernel
theorem d_M_minute_21 : decode b_M_minute 21 = .ok (.aload_n 0, 1) := by decide +kernel
theorem d_M_minute_22 : decode b_M_minute 22 = .ok (.getfield 104, 3) := by decide +kernel
theorem d_M_minute_25 : decode b_M_minute 25 = .ok (.ifCond .eq 5, 3) := by decide +kernel
theorem d_M_minute_28 : decode b_M_minute 28 = .ok (.iconst 0, 1) := by decide +kernel
theorem d_M_minute_29 : decode b_M_minute 29 = .ok (.ireturn, 1) := by decide +kernel
theorem d_M_minute_30 : decode b_M_minute 30 = .ok (.iconst 0, 1) := by decide +kernel
theorem d_M_minute_31 : decode b_M_minute 31 = .ok (.istore_n 2, 1) := by decide +kernel
theorem d_M_minute_32 : decode b_M_minute 32 = .ok (.iload_n 2, 1) := by decide +kernel
theorem d_M_minute_33 : decode b_M_minute 33 = .ok (.iload_n 1, 1) := by decide +kernel
theorem d_M_minute_34 : decode b_M_minute 34 = .ok (.if_icmp .ge 78, 3) := by decide +kernel
theorem d_M_minute_37 : decode b_M_minute 37 = .ok (.aload_n 0, 1) := by decide +kernel
theorem d_M_minute_38 : decode b_M_minute 38 = .ok (.dup, 1) := by decide +kernel
theorem d_M_minute_39 : decode b_M_minute 39 = .ok (.getfield 186, 3) := by decide +kernel
theorem d_M_minute_42 : decode b_M_minute 42 = .ok (.iconst 1, 1) := by decide +kernel
theorem d_M_minute_43 : decode b_M_minute 43 = .ok (.iadd, 1) := by decide +kernel
theorem d_M_minute_44 : decode b_M_minute 44 = .ok (.putfield 186, 3) := by decide +kernel
theorem d_M_minute_47 : decode b_M_minute 47 = .ok (.iconst 0, 1) := by decide +kernel
theorem d_M_minute_48 : decode b_M_minute 48 = .ok (.istore_n 3, 1) := by decide +kernel
theorem d_M_minute_49 : decode b_M_minute 49 = .ok (.iload_n 3, 1) := by decide +kernel
theorem d_M_minute_50 : decode b_M_minute 50 = .ok (.aload_n 0, 1) := by decide +kernel
theorem d_M_minute_51 : decode b_M_minute 51 = .ok (.getfield 112, 3) := by decide +kernel
theorem d_M_minute_54 : decode b_M_minute 54 = .ok (.if_icmp .ge 31, 3) := by decide +kernel
theorem d_M_minute_57 : decode b_M_minute 57 = .ok (.aload_n 0, 1) := by decide +kernel
theorem d_M_minute_58 : decode b_M_minute 58 = .ok (.getfield 40, 3) := by decide +kernel
theorem d_M_minute_61 : decode b_M_minute 61 = .ok (.iload_n 3, 1) := by decide +kernel
theorem d_M_minute_62 : decode b_M_minute 62 = .ok (.iaload, 1) := by decide +kernel
theorem d_M_minute_63 : decode b_M_minute 63 = .ok (.sipush 7200, 3) := by decide +kernel
theorem d_M_minute_66 : decode b_M_minute 66 = .ok (.iadd, 1) := by decide +kernel
theorem d_M_minute_67 : decode b_M_minute 67 = .ok (.aload_n 0, 1) := by decide +kernel
theorem d_M_minute_68 : decode b_M_minute 68 = .ok (.getfield 186, 3) := by decide +kernel
theorem d_M_minute_71 : decode b_M_minute 71 = .ok (.if_icmp .ne 8, 3) := by decide +kernel
theorem d_M_minute_74 : decode b_M_minute 74 = .ok (.aload_n 0, 1) := by decide +kernel
theorem d_M_minute_75 : decode b_M_minute 75 = .ok (.iload_n 3, 1) := by decide +kernel
theorem d_M_minute_76 : decode b_M_minute 76 = .ok (.invokevirtual 189, 3) := by decide +kernel
theorem d_M_minute_79 : decode b_M_minute 79 = .ok (.iinc 3 1, 3) := by decide +kernel
theorem d_M_minute_82 : decode b_M_minute 82 = .ok (.goto (-33), 3) := by decide +kernel
theorem d_M_minute_85 : decode b_M_minute 85 = .ok (.iconst 0, 1) := by decide +kernel
theorem d_M_minute_86 : decode b_M_minute 86 = .ok (.istore_n 3, 1) := by decide +kernel
theorem d_M_minute_87 : decode b_M_minute 87 = .ok (.iload_n 3, 1) := by decide +kernel
theorem d_M_minute_88 : decode b_M_minute 88 = .ok (.aload_n 0, 1) := by decide +kernel
theorem d_M_minute_89 : decode b_M_minute 89 = .ok (.getfield 112, 3) := by decide +kernel
theorem d_M_minute_92 : decode b_M_minute 92 = .ok (.if_icmp .ge 14, 3) := by decide +kernel
theorem d_M_minute_95 : decode b_M_minute 95 = .ok (.aload_n 0, 1) := by decide +kernel
theorem d_M_minute_96 : decode b_M_minute 96 = .ok (.iload_n 3, 1) := by decide +kernel
theorem d_M_minute_97 : decode b_M_minute 97 = .ok (.invokevirtual 173, 3) := by decide +kernel
theorem d_M_minute_100 : decode b_M_minute 100 = .ok (.iinc 3 1, 3) := by decide +kernel
theorem d_M_minute_103 : decode b_M_minute 103 = .ok (.goto (-16), 3) := by decide +kernel
theorem d_M_minute_106 : decode b_M_minute 106 = .ok (.iinc 2 1, 3) := by decide +kernel
theorem d_M_minute_109 : decode b_M_minute 109 = .ok (.goto (-77), 3) := by decide +kernel
theorem d_M_minute_112 : decode b_M_minute 112 = .ok (.aload_n 0, 1) := by decide +kernel
theorem d_M_minute_113 : decode b_M_minute 113 = .ok (.getfield 186, 3) := by decide +kernel
theorem d_M_minute_116 : decode b_M_minute 116 = .ok (.ireturn, 1) := by decide +kernel
theorem d_M_exchangeNews_0 : decode b_M_exchangeNews 0 = .ok (.aload_n 0, 1) := by decide +kernel
theorem d_M_exchangeNews_1 : decode b_M_exchangeNews 1 = .ok (.getfield 22, 3) := by decide +kernel
theorem d_M_exchangeNews_4 : decode b_M_exchangeNews 4 = .ok (.iload_n 1, 1) := by decide +kernel
theorem d_M_exchangeNews_5 : decode b_M_exchangeNews 5 = .ok (.iaload, 1) := by decide +kernel
theorem d_M_exchangeNews_6 : decode b_M_exchangeNews 6 = .ok (.aload_n 0, 1) := by decide +kernel
theorem d_M_exchangeNews_7 : decode b_M_exchangeNews 7 = .ok (.getfield 22, 3) := by decide +kernel
theorem d_M_exchangeNews_10 : decode b_M_exchangeNews 10 = .ok (.iload_n 2, 1) := by decide +kernel
theorem d_M_exchangeNews_11 : decode b_M_exchangeNews 11 = .ok (.iaload, 1) := by decide +kernel
theorem d_M_exchangeNews_12 : decode b_M_exchangeNews 12 = .ok (.if_icmp .le 12, 3) := by decide +kernel
theorem d_M_exchangeNews_15 : decode b_M_exchangeNews 15 = .ok (.aload_n 0, 1) := by decide +kernel
theorem d_M_exchangeNews_16 : decode b_M_exchangeNews 16 = .ok (.getfield 22, 3) := by decide +kernel
theorem d_M_exchangeNews_19 : decode b_M_exchangeNews 19 = .ok (.iload_n 1, 1) := by decide +kernel
theorem d_M_exchangeNews_20 : decode b_M_exchangeNews 20 = .ok (.iaload, 1) := by decide +kernel
theorem d_M_exchangeNews_21 : decode b_M_exchangeNews 21 = .ok (.goto 9, 3) := by decide +kernel
theorem d_M_exchangeNews_24 : decode b_M_exchangeNews 24 = .ok (.aload_n 0, 1) := by decide +kernel
theorem d_M_exchangeNews_25 : decode b_M_exchangeNews 25 = .ok (.getfield 22, 3) := by decide +kernel
theorem d_M_exchangeNews_28 : decode b_M_exchangeNews 28 = .ok (.iload_n 2, 1) := by decide +kernel
theorem d_M_exchangeNews_29 : decode b_M_exchangeNews 29 = .ok (.iaload, 1) := by decide +kernel
theorem d_M_exchangeNews_30 : decode b_M_exchangeNews 30 = .ok (.istore_n 3, 1) := by decide +kernel
theorem d_M_exchangeNews_31 : decode b_M_exchangeNews 31 = .ok (.aload_n 0, 1) := by decide +kernel
theorem d_M_exchangeNews_32 : decode b_M_exchangeNews 32 = .ok (.getfield 22, 3) := by decide +kernel
theorem d_M_exchangeNews_35 : decode b_M_exchangeNews 35 = .ok (.iload_n 1, 1) := by decide +kernel
theorem d_M_exchangeNews_36 : decode b_M_exchangeNews 36 = .ok (.iload_n 3, 1) := by decide +kernel
theorem d_M_exchangeNews_37 : decode b_M_exchangeNews 37 = .ok (.iastore, 1) := by decide +kernel
theorem d_M_exchangeNews_38 : decode b_M_exchangeNews 38 = .ok (.aload_n 0, 1) := by decide +kernel
theorem d_M_exchangeNews_39 : decode b_M_exchangeNews 39 = .ok (.getfield 22, 3) := by decide +kernel
theorem d_M_exchangeNews_42 : decode b_M_exchangeNews 42 = .ok (.iload_n 2, 1) := by decide +kernel
theorem d_M_exchangeNews_43 : decode b_M_exchangeNews 43 = .ok (.iload_n 3, 1) := by decide +kernel
theorem d_M_exchangeNews_44 : decode b_M_exchangeNews 44 = .ok (.iastore, 1) := by decide +kernel
theorem d_M_exchangeNews_45 : decode b_M_exchangeNews 45 = .ok (.iconst 0, 1) := by decide +kernel
theorem d_M_exchangeNews_46 : decode b_M_exchangeNews 46 = .ok (.istore 4, 2) := by decide +kernel
theorem d_M_exchangeNews_48 : decode b_M_exchangeNews 48 = .ok (.iload 4, 2) := by decide +kernel
theorem d_M_exchangeNews_50 : decode b_M_exchangeNews 50 = .ok (.bipush 64, 2) := by decide +kernel
theorem d_M_exchangeNews_52 : decode b_M_exchangeNews 52 = .ok (.if_icmp .ge 87, 3) := by decide +kernel
theorem d_M_exchangeNews_55 : decode b_M_exchangeNews 55 = .ok (.aload_n 0, 1) := by decide +kernel
theorem d_M_exchangeNews_56 : decode b_M_exchangeNews 56 = .ok (.getfield 62, 3) := by decide +kernel
theorem d_M_exchangeNews_59 : decode b_M_exchangeNews 59 = .ok (.bipush 64, 2) := by decide +kernel
theorem d_M_exchangeNews_61 : decode b_M_exchangeNews 61 = .ok (.iload_n 1, 1) := by decide +kernel
theorem d_M_exchangeNews_62 : decode b_M_exchangeNews 62 = .ok (.imul, 1) := by decide +kernel
theorem d_M_exchangeNews_63 : decode b_M_exchangeNews 63 = .ok (.iload 4, 2) := by decide +kernel
theorem d_M_exchangeNews_65 : decode b_M_exchangeNews 65 = .ok (.iadd, 1) := by decide +kernel
theorem d_M_exchangeNews_66 : decode b_M_exchangeNews 66 = .ok (.iaload, 1) := by decide +kernel
theorem d_M_exchangeNews_67 : decode b_M_exchangeNews 67 = .ok (.istore 5, 2) := by decide +kernel
theorem d_M_exchangeNews_69 : decode b_M_exchangeNews 69 = .ok (.aload_n 0, 1) := by decide +kernel
theorem d_M_exchangeNews_70 : decode b_M_exchangeNews 70 = .ok (.getfield 62, 3) := by decide +kernel
theorem d_M_exchangeNews_73 : decode b_M_exchangeNews 73 = .ok (.bipush 64, 2) := by decide +kernel
theorem d_M_exchangeNews_75 : decode b_M_exchangeNews 75 = .ok (.iload_n 2, 1) := by decide +kernel
theorem d_M_exchangeNews_76 : decode b_M_exchangeNews 76 = .ok (.imul, 1) := by decide +kernel
theorem d_M_exchangeNews_77 : decode b_M_exchangeNews 77 = .ok (.iload 4, 2) := by decide +kernel
theorem d_M_exchangeNews_79 : decode b_M_exchangeNews 79 = .ok (.iadd, 1) := by decide +kernel
theorem d_M_exchangeNews_80 : decode b_M_exchangeNews 80 = .ok (.iaload, 1) := by decide +kernel
theorem d_M_exchangeNews_81 : decode b_M_exchangeNews 81 = .ok (.istore 6, 2) := by decide +kernel
theorem d_M_exchangeNews_83 : decode b_M_exchangeNews 83 = .ok (.aload_n 0, 1) := by decide +kernel
theorem d_M_exchangeNews_84 : decode b_M_exchangeNews 84 = .ok (.bipush 64, 2) := by decide +kernel
theorem d_M_exchangeNews_86 : decode b_M_exchangeNews 86 = .ok (.iload_n 1, 1) := by decide +kernel
theorem d_M_exchangeNews_87 : decode b_M_exchangeNews 87 = .ok (.imul, 1) := by decide +kernel
theorem d_M_exchangeNews_88 : decode b_M_exchangeNews 88 = .ok (.iload 4, 2) := by decide +kernel
theorem d_M_exchangeNews_90 : decode b_M_exchangeNews 90 = .ok (.iadd, 1) := by decide +kernel
theorem d_M_exchangeNews_91 : decode b_M_exchangeNews 91 = .ok (.iload 5, 2) := by decide +kernel
theorem d_M_exchangeNews_93 : decode b_M_exchangeNews 93 = .ok (.iload 6, 2) := by decide +kernel
theorem d_M_exchangeNews_95 : decode b_M_exchangeNews 95 = .ok (.if_icmp .le 8, 3) := by decide +kernel
theorem d_M_exchangeNews_98 : decode b_M_exchangeNews 98 = .ok (.iload 5, 2) := by decide +kernel
theorem d_M_exchangeNews_100 : decode b_M_exchangeNews 100 = .ok (.goto 5, 3) := by decide +kernel
theorem d_M_exchangeNews_103 : decode b_M_exchangeNews 103 = .ok (.iload 6, 2) := by decide +kernel
theorem d_M_exchangeNews_105 : decode b_M_exchangeNews 105 = .ok (.invokevirtual 192, 3) := by decide +kernel
theorem d_M_exchangeNews_108 : decode b_M_exchangeNews 108 = .ok (.aload_n 0, 1) := by decide +kernel
theorem d_M_exchangeNews_109 : decode b_M_exchangeNews 109 = .ok (.bipush 64, 2) := by decide +kernel
theorem d_M_exchangeNews_111 : decode b_M_exchangeNews 111 = .ok (.iload_n 2, 1) := by decide +kernel
theorem d_M_exchangeNews_112 : decode b_M_exchangeNews 112 = .ok (.imul, 1) := by decide +kernel
theorem d_M_exchangeNews_113 : decode b_M_exchangeNews 113 = .ok (.iload 4, 2) := by decide +kernel
theorem d_M_exchangeNews_115 : decode b_M_exchangeNews 115 = .ok (.iadd, 1) := by decide +kernel
theorem d_M_exchangeNews_116 : decode b_M_exchangeNews 116 = .ok (.iload 5, 2) := by decide +kernel
theorem d_M_exchangeNews_118 : decode b_M_exchangeNews 118 = .ok (.iload 6, 2) := by decide +kernel
theorem d_M_exchangeNews_120 : decode b_M_exchangeNews 120 = .ok (.if_icmp .le 8, 3) := by decide +kernel
theorem d_M_exchangeNews_123 : decode b_M_exchangeNews 123 = .ok (.iload 5, 2) := by decide +kernel
theorem d_M_exchangeNews_125 : decode b_M_exchangeNews 125 = .ok (.goto 5, 3) := by decide +kernel
theorem d_M_exchangeNews_128 : decode b_M_exchangeNews 128 = .ok (.iload 6, 2) := by decide +kernel
theorem d_M_exchangeNews_130 : decode b_M_exchangeNews 130 = .ok (.invokevirtual 192, 3) := by decide +kernel
theorem d_M_exchangeNews_133 : decode b_M_exchangeNews 133 = .ok (.iinc 4 1, 3) := by decide +kernel
theorem d_M_exchangeNews_136 : decode b_M_exchangeNews 136 = .ok (.goto (-88), 3) := by decide +kernel
theorem d_M_exchangeNews_139 : decode b_M_exchangeNews 139 = .ok (.iconst 0, 1) := by decide +kernel
theorem d_M_exchangeNews_140 : decode b_M_exchangeNews 140 = .ok (.istore 4, 2) := by decide +kernel
theorem d_M_exchangeNews_142 : decode b_M_exchangeNews 142 = .ok (.iload 4, 2) := by decide +kernel
theorem d_M_exchangeNews_144 : decode b_M_exchangeNews 144 = .ok (.aload_n 0, 1) := by decide +kernel
theorem d_M_exchangeNews_145 : decode b_M_exchangeNews 145 = .ok (.getfield 112, 3) := by decide +kernel
theorem d_M_exchangeNews_148 : decode b_M_exchangeNews 148 = .ok (.if_icmp .ge 90, 3) := by decide +kernel
theorem d_M_exchangeNews_151 : decode b_M_exchangeNews 151 = .ok (.aload_n 0, 1) := by decide +kernel
theorem d_M_exchangeNews_152 : decode b_M_exchangeNews 152 = .ok (.getfield 68, 3) := by decide +kernel
theorem d_M_exchangeNews_155 : decode b_M_exchangeNews 155 = .ok (.bipush 16, 2) := by decide +kernel
theorem d_M_exchangeNews_157 : decode b_M_exchangeNews 157 = .ok (.iload_n 1, 1) := by decide +kernel
theorem d_M_exchangeNews_158 : decode b_M_exchangeNews 158 = .ok (.imul, 1) := by decide +kernel
theorem d_M_exchangeNews_159 : decode b_M_exchangeNews 159 = .ok (.iload 4, 2) := by decide +kernel
theorem d_M_exchangeNews_161 : decode b_M_exchangeNews 161 = .ok (.iadd, 1) := by decide +kernel
theorem d_M_exchangeNews_162 : decode b_M_exchangeNews 162 = .ok (.iaload, 1) := by decide +kernel
theorem d_M_exchangeNews_163 : decode b_M_exchangeNews 163 = .ok (.istore 5, 2) := by decide +kernel
theorem d_M_exchangeNews_165 : decode b_M_exchangeNews 165 = .ok (.aload_n 0, 1) := by decide +kernel
theorem d_M_exchangeNews_166 : decode b_M_exchangeNews 166 = .ok (.getfield 68, 3) := by decide +kernel
theorem d_M_exchangeNews_169 : decode b_M_exchangeNews 169 = .ok (.bipush 16, 2) := by decide +kernel
theorem d_M_exchangeNews_171 : decode b_M_exchangeNews 171 = .ok (.iload_n 2, 1) := by decide +kernel
theorem d_M_exchangeNews_172 : decode b_M_exchangeNews 172 = .ok (.imul, 1) := by decide +kernel
theorem d_M_exchangeNews_173 : decode b_M_exchangeNews 173 = .ok (.iload 4, 2) := by decide +kernel
theorem d_M_exchangeNews_175 : decode b_M_exchangeNews 175 = .ok (.iadd, 1) := by decide +kernel
theorem d_M_exchangeNews_176 : decode b_M_exchangeNews 176 = .ok (.iaload, 1) := by decide +kernel
theorem d_M_exchangeNews_177 : decode b_M_exchangeNews 177 = .ok (.istore 6, 2) := by decide +kernel
theorem d_M_exchangeNews_179 : decode b_M_exchangeNews 179 = .ok (.iload 5, 2) := by decide +kernel
theorem d_M_exchangeNews_181 : decode b_M_exchangeNews 181 = .ok (.iconst 1, 1) := by decide +kernel
theorem d_M_exchangeNews_182 : decode b_M_exchangeNews 182 = .ok (.if_icmp .eq 9, 3) := by decide +kernel
theorem d_M_exchangeNews_185 : decode b_M_exchangeNews 185 = .ok (.iload 6, 2) := by decide +kernel
theorem d_M_exchangeNews_187 : decode b_M_exchangeNews 187 = .ok (.iconst 1, 1) := by decide +kernel
theorem d_M_exchangeNews_188 : decode b_M_exchangeNews 188 = .ok (.if_icmp .ne 7, 3) := by decide +kernel
theorem d_M_exchangeNews_191 : decode b_M_exchangeNews 191 = .ok (.iconst 1, 1) := by decide +kernel
theorem d_M_exchangeNews_192 : decode b_M_exchangeNews 192 = .ok (.goto 20, 3) := by decide +kernel
theorem d_M_exchangeNews_195 : decode b_M_exchangeNews 195 = .ok (.iload 5, 2) := by decide +kernel
theorem d_M_exchangeNews_197 : decode b_M_exchangeNews 197 = .ok (.iconst 2, 1) := by decide +kernel
theorem d_M_exchangeNews_198 : decode b_M_exchangeNews 198 = .ok (.if_icmp .eq 9, 3) := by decide +kernel
theorem d_M_exchangeNews_201 : decode b_M_exchangeNews 201 = .ok (.iload 6, 2) := by decide +kernel
theorem d_M_exchangeNews_203 : decode b_M_exchangeNews 203 = .ok (.iconst 2, 1) := by decide +kernel
theorem d_M_exchangeNews_204 : decode b_M_exchangeNews 204 = .ok (.if_icmp .ne 7, 3) := by decide +kernel
theorem d_M_exchangeNews_207 : decode b_M_exchangeNews 207 = .ok (.iconst 2, 1) := by decide +kernel
theorem d_M_exchangeNews_208 : decode b_M_exchangeNews 208 = .ok (.goto 4, 3) := by decide +kernel
theorem d_M_exchangeNews_211 : decode b_M_exchangeNews 211 = .ok (.iconst 0, 1) := by decide +kernel
theorem d_M_exchangeNews_212 : decode b_M_exchangeNews 212 = .ok (.istore 7, 2) := by decide +kernel
theorem d_M_exchangeNews_214 : decode b_M_exchangeNews 214 = .ok (.aload_n 0, 1) := by decide +kernel
theorem d_M_exchangeNews_215 : decode b_M_exchangeNews 215 = .ok (.iload_n 1, 1) := by decide +kernel
theorem d_M_exchangeNews_216 : decode b_M_exchangeNews 216 = .ok (.iload 4, 2) := by decide +kernel
theorem d_M_exchangeNews_218 : decode b_M_exchangeNews 218 = .ok (.iload 7, 2) := by decide +kernel
theorem d_M_exchangeNews_220 : decode b_M_exchangeNews 220 = .ok (.invokevirtual 163, 3) := by decide +kernel
theorem d_M_exchangeNews_223 : decode b_M_exchangeNews 223 = .ok (.aload_n 0, 1) := by decide +kernel
theorem d_M_exchangeNews_224 : decode b_M_exchangeNews 224 = .ok (.iload_n 2, 1) := by decide +kernel
theorem d_M_exchangeNews_225 : decode b_M_exchangeNews 225 = .ok (.iload 4, 2) := by decide +kernel
theorem d_M_exchangeNews_227 : decode b_M_exchangeNews 227 = .ok (.iload 7, 2) := by decide +kernel
theorem d_M_exchangeNews_229 : decode b_M_exchangeNews 229 = .ok (.invokevirtual 163, 3) := by decide +kernel
theorem d_M_exchangeNews_232 : decode b_M_exchangeNews 232 = .ok (.iinc 4 1, 3) := by decide +kernel
theorem d_M_exchangeNews_235 : decode b_M_exchangeNews 235 = .ok (.goto (-93), 3) := by decide +kernel
theorem d_M_exchangeNews_238 : decode b_M_exchangeNews 238 = .ok (.return_, 1) := by decide +kernel
theorem d_M_settle_0 : decode b_M_settle 0 = .ok (.iconst 0, 1) := by decide +kernel
theorem d_M_settle_1 : decode b_M_settle 1 = .ok (.istore_n 3, 1) := by decide +kernel
theorem d_M_settle_2 : decode b_M_settle 2 = .ok (.iload_n 3, 1) := by decide +kernel
theorem d_M_settle_3 : decode b_M_settle 3 = .ok (.aload_n 0, 1) := by decide +kernel
theorem d_M_settle_4 : decode b_M_settle 4 = .ok (.getfield 112, 3) := by decide +kernel
theorem d_M_settle_7 : decode b_M_settle 7 = .ok (.if_icmp .ge 221, 3) := by decide +kernel
theorem d_M_settle_10 : decode b_M_settle 10 = .ok (.aload_n 0, 1) := by decide +kernel
theorem d_M_settle_11 : decode b_M_settle 11 = .ok (.aload_n 0, 1) := by decide +kernel
theorem d_M_settle_12 : decode b_M_settle 12 = .ok (.getfield 22, 3) := by decide +kernel
theorem d_M_settle_15 : decode b_M_settle 15 = .ok (.iload_n 2, 1) := by decide +kernel
theorem d_M_settle_16 : decode b_M_settle 16 = .ok (.iaload, 1) := by decide +kernel
theorem d_M_settle_17 : decode b_M_settle 17 = .ok (.aload_n 0, 1) := by decide +kernel
theorem d_M_settle_18 : decode b_M_settle 18 = .ok (.getfield 34, 3) := by decide +kernel
theorem d_M_settle_21 : decode b_M_settle 21 = .ok (.iload_n 3, 1) := by decide +kernel
theorem d_M_settle_22 : decode b_M_settle 22 = .ok (.iaload, 1) := by decide +kernel
theorem d_M_settle_23 : decode b_M_settle 23 = .ok (.iload_n 2, 1) := by decide +kernel
theorem d_M_settle_24 : decode b_M_settle 24 = .ok (.aload_n 0, 1) := by decide +kernel
theorem d_M_settle_25 : decode b_M_settle 25 = .ok (.getfield 186, 3) := by decide +kernel
theorem d_M_settle_28 : decode b_M_settle 28 = .ok (.iconst 1, 1) := by decide +kernel
theorem d_M_settle_29 : decode b_M_settle 29 = .ok (.iadd, 1) := by decide +kernel
theorem d_M_settle_30 : decode b_M_settle 30 = .ok (.invokevirtual 142, 3) := by decide +kernel
theorem d_M_settle_33 : decode b_M_settle 33 = .ok (.istore 4, 2) := by decide +kernel
theorem d_M_settle_35 : decode b_M_settle 35 = .ok (.aload_n 0, 1) := by decide +kernel
theorem d_M_settle_36 : decode b_M_settle 36 = .ok (.aload_n 0, 1) := by decide +kernel
theorem d_M_settle_37 : decode b_M_settle 37 = .ok (.getfield 22, 3) := by decide +kernel
theorem d_M_settle_40 : decode b_M_settle 40 = .ok (.iload_n 2, 1) := by decide +kernel
theorem d_M_settle_41 : decode b_M_settle 41 = .ok (.iaload, 1) := by decide +kernel
theorem d_M_settle_42 : decode b_M_settle 42 = .ok (.aload_n 0, 1) := by decide +kernel
theorem d_M_settle_43 : decode b_M_settle 43 = .ok (.getfield 34, 3) := by decide +kernel
theorem d_M_settle_46 : decode b_M_settle 46 = .ok (.iload_n 3, 1) := by decide +kernel
theorem d_M_settle_47 : decode b_M_settle 47 = .ok (.iaload, 1) := by decide +kernel
theorem d_M_settle_48 : decode b_M_settle 48 = .ok (.iload_n 1, 1) := by decide +kernel
theorem d_M_settle_49 : decode b_M_settle 49 = .ok (.aload_n 0, 1) := by decide +kernel
theorem d_M_settle_50 : decode b_M_settle 50 = .ok (.getfield 186, 3) := by decide +kernel
theorem d_M_settle_53 : decode b_M_settle 53 = .ok (.invokevirtual 142, 3) := by decide +kernel
theorem d_M_settle_56 : decode b_M_settle 56 = .ok (.istore 5, 2) := by decide +kernel
theorem d_M_settle_58 : decode b_M_settle 58 = .ok (.aload_n 0, 1) := by decide +kernel
theorem d_M_settle_59 : decode b_M_settle 59 = .ok (.getfield 68, 3) := by decide +kernel
theorem d_M_settle_62 : decode b_M_settle 62 = .ok (.bipush 16, 2) := by decide +kernel
theorem d_M_settle_64 : decode b_M_settle 64 = .ok (.iload_n 1, 1) := by decide +kernel
theorem d_M_settle_65 : decode b_M_settle 65 = .ok (.imul, 1) := by decide +kernel
theorem d_M_settle_66 : decode b_M_settle 66 = .ok (.iload_n 3, 1) := by decide +kernel
theorem d_M_settle_67 : decode b_M_settle 67 = .ok (.iadd, 1) := by decide +kernel
theorem d_M_settle_68 : decode b_M_settle 68 = .ok (.iaload, 1) := by decide +kernel
theorem d_M_settle_69 : decode b_M_settle 69 = .ok (.ifCond .ne 27, 3) := by decide +kernel
theorem d_M_settle_72 : decode b_M_settle 72 = .ok (.aload_n 0, 1) := by decide +kernel
theorem d_M_settle_73 : decode b_M_settle 73 = .ok (.getfield 34, 3) := by decide +kernel
theorem d_M_settle_76 : decode b_M_settle 76 = .ok (.iload_n 3, 1) := by decide +kernel
theorem d_M_settle_77 : decode b_M_settle 77 = .ok (.iaload, 1) := by decide +kernel
theorem d_M_settle_78 : decode b_M_settle 78 = .ok (.iload_n 2, 1) := by decide +kernel
theorem d_M_settle_79 : decode b_M_settle 79 = .ok (.if_icmp .eq 13, 3) := by decide +kernel
theorem d_M_settle_82 : decode b_M_settle 82 = .ok (.iload 4, 2) := by decide +kernel
theorem d_M_settle_84 : decode b_M_settle 84 = .ok (.iload 5, 2) := by decide +kernel
theorem d_M_settle_86 : decode b_M_settle 86 = .ok (.invokestatic 195, 3) := by decide +kernel
theorem d_M_settle_89 : decode b_M_settle 89 = .ok (.ifCond .eq 7, 3) := by decide +kernel
theorem d_M_settle_92 : decode b_M_settle 92 = .ok (.iconst 1, 1) := by decide +kernel
theorem d_M_settle_93 : decode b_M_settle 93 = .ok (.goto 4, 3) := by decide +kernel
theorem d_M_settle_96 : decode b_M_settle 96 = .ok (.iconst 0, 1) := by decide +kernel
theorem d_M_settle_97 : decode b_M_settle 97 = .ok (.istore 6, 2) := by decide +kernel
theorem d_M_settle_99 : decode b_M_settle 99 = .ok (.aload_n 0, 1) := by decide +kernel
theorem d_M_settle_100 : decode b_M_settle 100 = .ok (.getfield 34, 3) := by decide +kernel
theorem d_M_settle_103 : decode b_M_settle 103 = .ok (.iload_n 3, 1) := by decide +kernel
theorem d_M_settle_104 : decode b_M_settle 104 = .ok (.iaload, 1) := by decide +kernel
theorem d_M_settle_105 : decode b_M_settle 105 = .ok (.iload_n 2, 1) := by decide +kernel
theorem d_M_settle_106 : decode b_M_settle 106 = .ok (.if_icmp .eq 23, 3) := by decide +kernel
theorem d_M_settle_109 : decode b_M_settle 109 = .ok (.iload 5, 2) := by decide +kernel
theorem d_M_settle_111 : decode b_M_settle 111 = .ok (.iconst (-1), 1) := by decide +kernel
theorem d_M_settle_112 : decode b_M_settle 112 = .ok (.if_icmp .eq 17, 3) := by decide +kernel
theorem d_M_settle_115 : decode b_M_settle 115 = .ok (.iload 4, 2) := by decide +kernel
theorem d_M_settle_117 : decode b_M_settle 117 = .ok (.iload 5, 2) := by decide +kernel
theorem d_M_settle_119 : decode b_M_settle 119 = .ok (.invokestatic 195, 3) := by decide +kernel
theorem d_M_settle_122 : decode b_M_settle 122 = .ok (.ifCond .ne 7, 3) := by decide +kernel
theorem d_M_settle_125 : decode b_M_settle 125 = .ok (.iconst 1, 1) := by decide +kernel
theorem d_M_settle_126 : decode b_M_settle 126 = .ok (.goto 4, 3) := by decide +kernel
theorem d_M_settle_129 : decode b_M_settle 129 = .ok (.iconst 0, 1) := by decide +kernel
theorem d_M_settle_130 : decode b_M_settle 130 = .ok (.istore 7, 2) := by decide +kernel
theorem d_M_settle_132 : decode b_M_settle 132 = .ok (.iconst 0, 1) := by decide +kernel
theorem d_M_settle_133 : decode b_M_settle 133 = .ok (.istore 8, 2) := by decide +kernel
theorem d_M_settle_135 : decode b_M_settle 135 = .ok (.iload 8, 2) := by decide +kernel
theorem d_M_settle_137 : decode b_M_settle 137 = .ok (.iconst 4, 1) := by decide +kernel
theorem d_M_settle_138 : decode b_M_settle 138 = .ok (.if_icmp .ge 84, 3) := by decide +kernel
theorem d_M_settle_141 : decode b_M_settle 141 = .ok (.aload_n 0, 1) := by decide +kernel
theorem d_M_settle_142 : decode b_M_settle 142 = .ok (.getfield 98, 3) := by decide +kernel
theorem d_M_settle_145 : decode b_M_settle 145 = .ok (.iconst 4, 1) := by decide +kernel
theorem d_M_settle_146 : decode b_M_settle 146 = .ok (.iload_n 3, 1) := by decide +kernel
theorem d_M_settle_147 : decode b_M_settle 147 = .ok (.imul, 1) := by decide +kernel
theorem d_M_settle_148 : decode b_M_settle 148 = .ok (.iload 8, 2) := by decide +kernel
theorem d_M_settle_150 : decode b_M_settle 150 = .ok (.iadd, 1) := by decide +kernel
theorem d_M_settle_151 : decode b_M_settle 151 = .ok (.iload 6, 2) := by decide +kernel
theorem d_M_settle_153 : decode b_M_settle 153 = .ok (.ifCond .eq 22, 3) := by decide +kernel
theorem d_M_settle_156 : decode b_M_settle 156 = .ok (.aload_n 0, 1) := by decide +kernel
theorem d_M_settle_157 : decode b_M_settle 157 = .ok (.getfield 56, 3) := by decide +kernel
theorem d_M_settle_160 : decode b_M_settle 160 = .ok (.iload_n 1, 1) := by decide +kernel
theorem d_M_settle_161 : decode b_M_settle 161 = .ok (.iload_n 3, 1) := by decide +kernel
theorem d_M_settle_162 : decode b_M_settle 162 = .ok (.iload 8, 2) := by decide +kernel
theorem d_M_settle_164 : decode b_M_settle 164 = .ok (.invokestatic 146, 3) := by decide +kernel
theorem d_M_settle_167 : decode b_M_settle 167 = .ok (.baload, 1) := by decide +kernel
theorem d_M_settle_168 : decode b_M_settle 168 = .ok (.ifCond .eq 7, 3) := by decide +kernel
theorem d_M_settle_171 : decode b_M_settle 171 = .ok (.iconst 1, 1) := by decide +kernel
theorem d_M_settle_172 : decode b_M_settle 172 = .ok (.goto 4, 3) := by decide +kernel
theorem d_M_settle_175 : decode b_M_settle 175 = .ok (.iconst 0, 1) := by decide +kernel
theorem d_M_settle_176 : decode b_M_settle 176 = .ok (.bastore, 1) := by decide +kernel
theorem d_M_settle_177 : decode b_M_settle 177 = .ok (.aload_n 0, 1) := by decide +kernel
theorem d_M_settle_178 : decode b_M_settle 178 = .ok (.getfield 98, 3) := by decide +kernel
theorem d_M_settle_181 : decode b_M_settle 181 = .ok (.bipush 64, 2) := by decide +kernel
theorem d_M_settle_183 : decode b_M_settle 183 = .ok (.iconst 4, 1) := by decide +kernel
theorem d_M_settle_184 : decode b_M_settle 184 = .ok (.iload_n 3, 1) := by decide +kernel
theorem d_M_settle_185 : decode b_M_settle 185 = .ok (.imul, 1) := by decide +kernel
theorem d_M_settle_186 : decode b_M_settle 186 = .ok (.iadd, 1) := by decide +kernel
theorem d_M_settle_187 : decode b_M_settle 187 = .ok (.iload 8, 2) := by decide +kernel
theorem d_M_settle_189 : decode b_M_settle 189 = .ok (.iadd, 1) := by decide +kernel
theorem d_M_settle_190 : decode b_M_settle 190 = .ok (.iload 7, 2) := by decide +kernel
theorem d_M_settle_192 : decode b_M_settle 192 = .ok (.ifCond .eq 22, 3) := by decide +kernel
theorem d_M_settle_195 : decode b_M_settle 195 = .ok (.aload_n 0, 1) := by decide +kernel
theorem d_M_settle_196 : decode b_M_settle 196 = .ok (.getfield 56, 3) := by decide +kernel
theorem d_M_settle_199 : decode b_M_settle 199 = .ok (.iload_n 2, 1) := by decide +kernel
theorem d_M_settle_200 : decode b_M_settle 200 = .ok (.iload_n 3, 1) := by decide +kernel
theorem d_M_settle_201 : decode b_M_settle 201 = .ok (.iload 8, 2) := by decide +kernel
theorem d_M_settle_203 : decode b_M_settle 203 = .ok (.invokestatic 146, 3) := by decide +kernel
theorem d_M_settle_206 : decode b_M_settle 206 = .ok (.baload, 1) := by decide +kernel
theorem d_M_settle_207 : decode b_M_settle 207 = .ok (.ifCond .eq 7, 3) := by decide +kernel
theorem d_M_settle_210 : decode b_M_settle 210 = .ok (.iconst 1, 1) := by decide +kernel
theorem d_M_settle_211 : decode b_M_settle 211 = .ok (.goto 4, 3) := by decide +kernel
theorem d_M_settle_214 : decode b_M_settle 214 = .ok (.iconst 0, 1) := by decide +kernel
theorem d_M_settle_215 : decode b_M_settle 215 = .ok (.bastore, 1) := by decide +kernel
theorem d_M_settle_216 : decode b_M_settle 216 = .ok (.iinc 8 1, 3) := by decide +kernel
theorem d_M_settle_219 : decode b_M_settle 219 = .ok (.goto (-84), 3) := by decide +kernel
theorem d_M_settle_222 : decode b_M_settle 222 = .ok (.iinc 3 1, 3) := by decide +kernel
theorem d_M_settle_225 : decode b_M_settle 225 = .ok (.goto (-223), 3) := by decide +kernel
theorem d_M_settle_228 : decode b_M_settle 228 = .ok (.return_, 1) := by decide +kernel
theorem d_M_move_0 : decode b_M_move 0 = .ok (.iload_n 1, 1) := by decide +kernel
theorem d_M_move_1 : decode b_M_move 1 = .ok (.iload_n 3, 1) := by decide +kernel
theorem d_M_move_2 : decode b_M_move 2 = .ok (.iload 4, 2) := by decide +kernel
theorem d_M_move_4 : decode b_M_move 4 = .ok (.invokestatic 146, 3) := by decide +kernel
theorem d_M_move_7 : decode b_M_move 7 = .ok (.istore 5, 2) := by decide +kernel
theorem d_M_move_9 : decode b_M_move 9 = .ok (.iload_n 2, 1) := by decide +kernel
theorem d_M_move_10 : decode b_M_move 10 = .ok (.iload_n 3, 1) := by decide +kernel
theorem d_M_move_11 : decode b_M_move 11 = .ok (.iload 4, 2) := by decide +kernel
theorem d_M_move_13 : decode b_M_move 13 = .ok (.invokestatic 146, 3) := by decide +kernel
theorem d_M_move_16 : decode b_M_move 16 = .ok (.istore 6, 2) := by decide +kernel
theorem d_M_move_18 : decode b_M_move 18 = .ok (.aload_n 0, 1) := by decide +kernel
theorem d_M_move_19 : decode b_M_move 19 = .ok (.getfield 56, 3) := by decide +kernel
theorem d_M_move_22 : decode b_M_move 22 = .ok (.iload 5, 2) := by decide +kernel
theorem d_M_move_24 : decode b_M_move 24 = .ok (.baload, 1) := by decide +kernel
theorem d_M_move_25 : decode b_M_move 25 = .ok (.ifCond .eq 13, 3) := by decide +kernel
theorem d_M_move_28 : decode b_M_move 28 = .ok (.aload_n 0, 1) := by decide +kernel
theorem d_M_move_29 : decode b_M_move 29 = .ok (.getfield 56, 3) := by decide +kernel
theorem d_M_move_32 : decode b_M_move 32 = .ok (.iload 6, 2) := by decide +kernel
theorem d_M_move_34 : decode b_M_move 34 = .ok (.baload, 1) := by decide +kernel
theorem d_M_move_35 : decode b_M_move 35 = .ok (.ifCond .eq 5, 3) := by decide +kernel
theorem d_M_move_38 : decode b_M_move 38 = .ok (.iconst 0, 1) := by decide +kernel
theorem d_M_move_39 : decode b_M_move 39 = .ok (.ireturn, 1) := by decide +kernel
theorem d_M_move_40 : decode b_M_move 40 = .ok (.aload_n 0, 1) := by decide +kernel
theorem d_M_move_41 : decode b_M_move 41 = .ok (.iload_n 2, 1) := by decide +kernel
theorem d_M_move_42 : decode b_M_move 42 = .ok (.invokevirtual 183, 3) := by decide +kernel
theorem d_M_move_45 : decode b_M_move 45 = .ok (.ifCond .ne 15, 3) := by decide +kernel
theorem d_M_move_48 : decode b_M_move 48 = .ok (.aload_n 0, 1) := by decide +kernel
theorem d_M_move_49 : decode b_M_move 49 = .ok (.getfield 74, 3) := by decide +kernel
theorem d_M_move_52 : decode b_M_move 52 = .ok (.iload_n 2, 1) := by decide +kernel
theorem d_M_move_53 : decode b_M_move 53 = .ok (.dup2, 1) := by decide +kernel
theorem d_M_move_54 : decode b_M_move 54 = .ok (.iaload, 1) := by decide +kernel
theorem d_M_move_55 : decode b_M_move 55 = .ok (.iconst 1, 1) := by decide +kernel
theorem d_M_move_56 : decode b_M_move 56 = .ok (.iadd, 1) := by decide +kernel
theorem d_M_move_57 : decode b_M_move 57 = .ok (.iastore, 1) := by decide +kernel
theorem d_M_move_58 : decode b_M_move 58 = .ok (.iconst 0, 1) := by decide +kernel
theorem d_M_move_59 : decode b_M_move 59 = .ok (.ireturn, 1) := by decide +kernel
theorem d_M_move_60 : decode b_M_move 60 = .ok (.aload_n 0, 1) := by decide +kernel
theorem d_M_move_61 : decode b_M_move 61 = .ok (.iload 5, 2) := by decide +kernel
theorem d_M_move_63 : decode b_M_move 63 = .ok (.putfield 198, 3) := by decide +kernel
theorem d_M_move_66 : decode b_M_move 66 = .ok (.aload_n 0, 1) := by decide +kernel
theorem d_M_move_67 : decode b_M_move 67 = .ok (.aload_n 0, 1) := by decide +kernel
theorem d_M_move_68 : decode b_M_move 68 = .ok (.getfield 59, 3) := by decide +kernel
theorem d_M_move_71 : decode b_M_move 71 = .ok (.iload 5, 2) := by decide +kernel
theorem d_M_move_73 : decode b_M_move 73 = .ok (.iaload, 1) := by decide +kernel
theorem d_M_move_74 : decode b_M_move 74 = .ok (.putfield 201, 3) := by decide +kernel
theorem d_M_move_77 : decode b_M_move 77 = .ok (.iconst 0, 1) := by decide +kernel
theorem d_M_move_78 : decode b_M_move 78 = .ok (.istore 7, 2) := by decide +kernel
theorem d_M_move_80 : decode b_M_move 80 = .ok (.iload 7, 2) := by decide +kernel
theorem d_M_move_82 : decode b_M_move 82 = .ok (.bipush 8, 2) := by decide +kernel
theorem d_M_move_84 : decode b_M_move 84 = .ok (.if_icmp .ge 55, 3) := by decide +kernel
theorem d_M_move_87 : decode b_M_move 87 = .ok (.aload_n 0, 1) := by decide +kernel
theorem d_M_move_88 : decode b_M_move 88 = .ok (.getfield 101, 3) := by decide +kernel
theorem d_M_move_91 : decode b_M_move 91 = .ok (.iload 7, 2) := by decide +kernel
theorem d_M_move_93 : decode b_M_move 93 = .ok (.aload_n 0, 1) := by decide +kernel
theorem d_M_move_94 : decode b_M_move 94 = .ok (.getfield 65, 3) := by decide +kernel
theorem d_M_move_97 : decode b_M_move 97 = .ok (.bipush 8, 2) := by decide +kernel
theorem d_M_move_99 : decode b_M_move 99 = .ok (.iload 5, 2) := by decide +kernel
theorem d_M_move_101 : decode b_M_move 101 = .ok (.imul, 1) := by decide +kernel
theorem d_M_move_102 : decode b_M_move 102 = .ok (.iload 7, 2) := by decide +kernel
theorem d_M_move_104 : decode b_M_move 104 = .ok (.iadd, 1) := by decide +kernel
theorem d_M_move_105 : decode b_M_move 105 = .ok (.iaload, 1) := by decide +kernel
theorem d_M_move_106 : decode b_M_move 106 = .ok (.iastore, 1) := by decide +kernel
theorem d_M_move_107 : decode b_M_move 107 = .ok (.aload_n 0, 1) := by decide +kernel
theorem d_M_move_108 : decode b_M_move 108 = .ok (.getfield 65, 3) := by decide +kernel
theorem d_M_move_111 : decode b_M_move 111 = .ok (.bipush 8, 2) := by decide +kernel
theorem d_M_move_113 : decode b_M_move 113 = .ok (.iload 6, 2) := by decide +kernel
theorem d_M_move_115 : decode b_M_move 115 = .ok (.imul, 1) := by decide +kernel
theorem d_M_move_116 : decode b_M_move 116 = .ok (.iload 7, 2) := by decide +kernel
theorem d_M_move_118 : decode b_M_move 118 = .ok (.iadd, 1) := by decide +kernel
theorem d_M_move_119 : decode b_M_move 119 = .ok (.aload_n 0, 1) := by decide +kernel
theorem d_M_move_120 : decode b_M_move 120 = .ok (.getfield 65, 3) := by decide +kernel
theorem d_M_move_123 : decode b_M_move 123 = .ok (.bipush 8, 2) := by decide +kernel
theorem d_M_move_125 : decode b_M_move 125 = .ok (.iload 5, 2) := by decide +kernel
theorem d_M_move_127 : decode b_M_move 127 = .ok (.imul, 1) := by decide +kernel
theorem d_M_move_128 : decode b_M_move 128 = .ok (.iload 7, 2) := by decide +kernel
theorem d_M_move_130 : decode b_M_move 130 = .ok (.iadd, 1) := by decide +kernel
theorem d_M_move_131 : decode b_M_move 131 = .ok (.iaload, 1) := by decide +kernel
theorem d_M_move_132 : decode b_M_move 132 = .ok (.iastore, 1) := by decide +kernel
theorem d_M_move_133 : decode b_M_move 133 = .ok (.iinc 7 1, 3) := by decide +kernel
theorem d_M_move_136 : decode b_M_move 136 = .ok (.goto (-56), 3) := by decide +kernel
theorem d_M_move_139 : decode b_M_move 139 = .ok (.aload_n 0, 1) := by decide +kernel
theorem d_M_move_140 : decode b_M_move 140 = .ok (.getfield 56, 3) := by decide +kernel
theorem d_M_move_143 : decode b_M_move 143 = .ok (.iload 6, 2) := by decide +kernel
theorem d_M_move_145 : decode b_M_move 145 = .ok (.iconst 1, 1) := by decide +kernel
theorem d_M_move_146 : decode b_M_move 146 = .ok (.bastore, 1) := by decide +kernel
theorem d_M_move_147 : decode b_M_move 147 = .ok (.aload_n 0, 1) := by decide +kernel
theorem d_M_move_148 : decode b_M_move 148 = .ok (.getfield 59, 3) := by decide +kernel
theorem d_M_move_151 : decode b_M_move 151 = .ok (.iload 6, 2) := by decide +kernel
theorem d_M_move_153 : decode b_M_move 153 = .ok (.aload_n 0, 1) := by decide +kernel
theorem d_M_move_154 : decode b_M_move 154 = .ok (.getfield 59, 3) := by decide +kernel
theorem d_M_move_157 : decode b_M_move 157 = .ok (.iload 5, 2) := by decide +kernel
theorem d_M_move_159 : decode b_M_move 159 = .ok (.iaload, 1) := by decide +kernel
theorem d_M_move_160 : decode b_M_move 160 = .ok (.iconst 1, 1) := by decide +kernel
theorem d_M_move_161 : decode b_M_move 161 = .ok (.iadd, 1) := by decide +kernel
theorem d_M_move_162 : decode b_M_move 162 = .ok (.iastore, 1) := by decide +kernel
theorem d_M_move_163 : decode b_M_move 163 = .ok (.aload_n 0, 1) := by decide +kernel
theorem d_M_move_164 : decode b_M_move 164 = .ok (.getfield 62, 3) := by decide +kernel
theorem d_M_move_167 : decode b_M_move 167 = .ok (.iload 6, 2) := by decide +kernel
theorem d_M_move_169 : decode b_M_move 169 = .ok (.aload_n 0, 1) := by decide +kernel
theorem d_M_move_170 : decode b_M_move 170 = .ok (.getfield 59, 3) := by decide +kernel
theorem d_M_move_173 : decode b_M_move 173 = .ok (.iload 6, 2) := by decide +kernel
theorem d_M_move_175 : decode b_M_move 175 = .ok (.iaload, 1) := by decide +kernel
theorem d_M_move_176 : decode b_M_move 176 = .ok (.iastore, 1) := by decide +kernel
theorem d_M_move_177 : decode b_M_move 177 = .ok (.aload_n 0, 1) := by decide +kernel
theorem d_M_move_178 : decode b_M_move 178 = .ok (.iload 5, 2) := by decide +kernel
theorem d_M_move_180 : decode b_M_move 180 = .ok (.aload_n 0, 1) := by decide +kernel
theorem d_M_move_181 : decode b_M_move 181 = .ok (.getfield 59, 3) := by decide +kernel
theorem d_M_move_184 : decode b_M_move 184 = .ok (.iload 6, 2) := by decide +kernel
theorem d_M_move_186 : decode b_M_move 186 = .ok (.iaload, 1) := by decide +kernel
theorem d_M_move_187 : decode b_M_move 187 = .ok (.invokevirtual 192, 3) := by decide +kernel
theorem d_M_move_190 : decode b_M_move 190 = .ok (.aload_n 0, 1) := by decide +kernel
theorem d_M_move_191 : decode b_M_move 191 = .ok (.getfield 34, 3) := by decide +kernel
theorem d_M_move_194 : decode b_M_move 194 = .ok (.iload_n 3, 1) := by decide +kernel
theorem d_M_move_195 : decode b_M_move 195 = .ok (.iaload, 1) := by decide +kernel
theorem d_M_move_196 : decode b_M_move 196 = .ok (.iload_n 2, 1) := by decide +kernel
theorem d_M_move_197 : decode b_M_move 197 = .ok (.if_icmp .ne 8, 3) := by decide +kernel
theorem d_M_move_200 : decode b_M_move 200 = .ok (.aload_n 0, 1) := by decide +kernel
theorem d_M_move_201 : decode b_M_move 201 = .ok (.iload_n 3, 1) := by decide +kernel
theorem d_M_move_202 : decode b_M_move 202 = .ok (.invokevirtual 173, 3) := by decide +kernel
theorem d_M_move_205 : decode b_M_move 205 = .ok (.iconst 1, 1) := by decide +kernel
theorem d_M_move_206 : decode b_M_move 206 = .ok (.ireturn, 1) := by decide +kernel
theorem d_M_give_0 : decode b_M_give 0 = .ok (.iconst 0, 1) := by decide +kernel
theorem d_M_give_1 : decode b_M_give 1 = .ok (.istore 5, 2) := by decide +kernel
theorem d_M_give_3 : decode b_M_give 3 = .ok (.iconst 0, 1) := by decide +kernel
theorem d_M_give_4 : decode b_M_give 4 = .ok (.istore 6, 2) := by decide +kernel
theorem d_M_give_6 : decode b_M_give 6 = .ok (.iload 6, 2) := by decide +kernel
theorem d_M_give_8 : decode b_M_give 8 = .ok (.iconst 3, 1) := by decide +kernel
theorem d_M_give_9 : decode b_M_give 9 = .ok (.if_icmp .ge 94, 3) := by decide +kernel
theorem d_M_give_12 : decode b_M_give 12 = .ok (.iconst 0, 1) := by decide +kernel
theorem d_M_give_13 : decode b_M_give 13 = .ok (.istore 7, 2) := by decide +kernel
theorem d_M_give_15 : decode b_M_give 15 = .ok (.iload 7, 2) := by decide +kernel
theorem d_M_give_17 : decode b_M_give 17 = .ok (.aload_n 0, 1) := by decide +kernel
theorem d_M_give_18 : decode b_M_give 18 = .ok (.getfield 112, 3) := by decide +kernel
theorem d_M_give_21 : decode b_M_give 21 = .ok (.if_icmp .ge 76, 3) := by decide +kernel
theorem d_M_give_24 : decode b_M_give 24 = .ok (.iconst 0, 1) := by decide +kernel
theorem d_M_give_25 : decode b_M_give 25 = .ok (.istore 8, 2) := by decide +kernel
theorem d_M_give_27 : decode b_M_give 27 = .ok (.iload 8, 2) := by decide +kernel
theorem d_M_give_29 : decode b_M_give 29 = .ok (.iconst 4, 1) := by decide +kernel
theorem d_M_give_30 : decode b_M_give 30 = .ok (.if_icmp .ge 61, 3) := by decide +kernel
theorem d_M_give_33 : decode b_M_give 33 = .ok (.aload_n 0, 1) := by decide +kernel
theorem d_M_give_34 : decode b_M_give 34 = .ok (.getfield 28, 3) := by decide +kernel
theorem d_M_give_37 : decode b_M_give 37 = .ok (.iload 7, 2) := by decide +kernel
theorem d_M_give_39 : decode b_M_give 39 = .ok (.iaload, 1) := by decide +kernel
theorem d_M_give_40 : decode b_M_give 40 = .ok (.iload 6, 2) := by decide +kernel
theorem d_M_give_42 : decode b_M_give 42 = .ok (.if_icmp .ne 49, 3) := by decide +kernel
theorem d_M_give_45 : decode b_M_give 45 = .ok (.iload 5, 2) := by decide +kernel
theorem d_M_give_47 : decode b_M_give 47 = .ok (.iload_n 3, 1) := by decide +kernel
theorem d_M_give_48 : decode b_M_give 48 = .ok (.if_icmp .ge 37, 3) := by decide +kernel
theorem d_M_give_51 : decode b_M_give 51 = .ok (.aload_n 0, 1) := by decide +kernel
theorem d_M_give_52 : decode b_M_give 52 = .ok (.getfield 98, 3) := by decide +kernel
theorem d_M_give_55 : decode b_M_give 55 = .ok (.iload 4, 2) := by decide +kernel
theorem d_M_give_57 : decode b_M_give 57 = .ok (.iconst 4, 1) := by decide +kernel
theorem d_M_give_58 : decode b_M_give 58 = .ok (.iload 7, 2) := by decide +kernel
theorem d_M_give_60 : decode b_M_give 60 = .ok (.imul, 1) := by decide +kernel
theorem d_M_give_61 : decode b_M_give 61 = .ok (.iadd, 1) := by decide +kernel
theorem d_M_give_62 : decode b_M_give 62 = .ok (.iload 8, 2) := by decide +kernel
theorem d_M_give_64 : decode b_M_give 64 = .ok (.iadd, 1) := by decide +kernel
theorem d_M_give_65 : decode b_M_give 65 = .ok (.baload, 1) := by decide +kernel
theorem d_M_give_66 : decode b_M_give 66 = .ok (.ifCond .eq 19, 3) := by decide +kernel
theorem d_M_give_69 : decode b_M_give 69 = .ok (.aload_n 0, 1) := by decide +kernel
theorem d_M_give_70 : decode b_M_give 70 = .ok (.iload_n 1, 1) := by decide +kernel
theorem d_M_give_71 : decode b_M_give 71 = .ok (.iload_n 2, 1) := by decide +kernel
theorem d_M_give_72 : decode b_M_give 72 = .ok (.iload 7, 2) := by decide +kernel
theorem d_M_give_74 : decode b_M_give 74 = .ok (.iload 8, 2) := by decide +kernel
theorem d_M_give_76 : decode b_M_give 76 = .ok (.invokevirtual 204, 3) := by decide +kernel
theorem d_M_give_79 : decode b_M_give 79 = .ok (.ifCond .eq 6, 3) := by decide +kernel
theorem d_M_give_82 : decode b_M_give 82 = .ok (.iinc 5 1, 3) := by decide +kernel
theorem d_M_give_85 : decode b_M_give 85 = .ok (.iinc 8 1, 3) := by decide +kernel
theorem d_M_give_88 : decode b_M_give 88 = .ok (.goto (-61), 3) := by decide +kernel
theorem d_M_give_91 : decode b_M_give 91 = .ok (.iinc 7 1, 3) := by decide +kernel
theorem d_M_give_94 : decode b_M_give 94 = .ok (.goto (-79), 3) := by decide +kernel
theorem d_M_give_97 : decode b_M_give 97 = .ok (.iinc 6 1, 3) := by decide +kernel
theorem d_M_give_100 : decode b_M_give 100 = .ok (.goto (-94), 3) := by decide +kernel
theorem d_M_give_103 : decode b_M_give 103 = .ok (.iload 5, 2) := by decide +kernel
theorem d_M_give_105 : decode b_M_give 105 = .ok (.ireturn, 1) := by decide +kernel
theorem d_M_meeting_0 : decode b_M_meeting 0 = .ok (.aload_n 0, 1) := by decide +kernel
theorem d_M_meeting_1 : decode b_M_meeting 1 = .ok (.iload_n 1, 1) := by decide +kernel
theorem d_M_meeting_2 : decode b_M_meeting 2 = .ok (.invokestatic 115, 3) := by decide +kernel
theorem d_M_meeting_5 : decode b_M_meeting 5 = .ok (.ifCond .eq 23, 3) := by decide +kernel
theorem d_M_meeting_8 : decode b_M_meeting 8 = .ok (.iload_n 2, 1) := by decide +kernel
theorem d_M_meeting_9 : decode b_M_meeting 9 = .ok (.invokestatic 119, 3) := by decide +kernel
theorem d_M_meeting_12 : decode b_M_meeting 12 = .ok (.ifCond .eq 16, 3) := by decide +kernel
theorem d_M_meeting_15 : decode b_M_meeting 15 = .ok (.iload_n 3, 1) := by decide +kernel
theorem d_M_meeting_16 : decode b_M_meeting 16 = .ok (.bipush 40, 2) := by decide +kernel
theorem d_M_meeting_18 : decode b_M_meeting 18 = .ok (.invokestatic 108, 3) := by decide +kernel
theorem d_M_meeting_21 : decode b_M_meeting 21 = .ok (.ifCond .eq 7, 3) := by decide +kernel
theorem d_M_meeting_24 : decode b_M_meeting 24 = .ok (.iconst 0, 1) := by decide +kernel
theorem d_M_meeting_25 : decode b_M_meeting 25 = .ok (.goto 4, 3) := by decide +kernel
theorem d_M_meeting_28 : decode b_M_meeting 28 = .ok (.iconst 1, 1) := by decide +kernel
theorem d_M_meeting_29 : decode b_M_meeting 29 = .ok (.putfield 104, 3) := by decide +kernel
theorem d_M_meeting_32 : decode b_M_meeting 32 = .ok (.aload_n 0, 1) := by decide +kernel
theorem d_M_meeting_33 : decode b_M_meeting 33 = .ok (.iconst (-1), 1) := by decide +kernel
theorem d_M_meeting_34 : decode b_M_meeting 34 = .ok (.putfield 198, 3) := by decide +kernel
theorem d_M_meeting_37 : decode b_M_meeting 37 = .ok (.aload_n 0, 1) := by decide +kernel
theorem d_M_meeting_38 : decode b_M_meeting 38 = .ok (.getfield 104, 3) := by decide +kernel
theorem d_M_meeting_41 : decode b_M_meeting 41 = .ok (.ifCond .eq 5, 3) := by decide +kernel
theorem d_M_meeting_44 : decode b_M_meeting 44 = .ok (.iconst 0, 1) := by decide +kernel
theorem d_M_meeting_45 : decode b_M_meeting 45 = .ok (.ireturn, 1) := by decide +kernel
theorem d_M_meeting_46 : decode b_M_meeting 46 = .ok (.aload_n 0, 1) := by decide +kernel
theorem d_M_meeting_47 : decode b_M_meeting 47 = .ok (.iload_n 1, 1) := by decide +kernel
theorem d_M_meeting_48 : decode b_M_meeting 48 = .ok (.iload_n 2, 1) := by decide +kernel
theorem d_M_meeting_49 : decode b_M_meeting 49 = .ok (.invokevirtual 208, 3) := by decide +kernel
theorem d_M_meeting_52 : decode b_M_meeting 52 = .ok (.aload_n 0, 1) := by decide +kernel
theorem d_M_meeting_53 : decode b_M_meeting 53 = .ok (.iload_n 1, 1) := by decide +kernel
theorem d_M_meeting_54 : decode b_M_meeting 54 = .ok (.iload_n 2, 1) := by decide +kernel
theorem d_M_meeting_55 : decode b_M_meeting 55 = .ok (.invokevirtual 211, 3) := by decide +kernel
theorem d_M_meeting_58 : decode b_M_meeting 58 = .ok (.aload_n 0, 1) := by decide +kernel
theorem d_M_meeting_59 : decode b_M_meeting 59 = .ok (.iload_n 1, 1) := by decide +kernel
theorem d_M_meeting_60 : decode b_M_meeting 60 = .ok (.iload_n 2, 1) := by decide +kernel
theorem d_M_meeting_61 : decode b_M_meeting 61 = .ok (.iload_n 3, 1) := by decide +kernel
theorem d_M_meeting_62 : decode b_M_meeting 62 = .ok (.iconst 0, 1) := by decide +kernel
theorem d_M_meeting_63 : decode b_M_meeting 63 = .ok (.invokevirtual 214, 3) := by decide +kernel
theorem d_M_meeting_66 : decode b_M_meeting 66 = .ok (.istore 4, 2) := by decide +kernel
theorem d_M_meeting_68 : decode b_M_meeting 68 = .ok (.iload 4, 2) := by decide +kernel
theorem d_M_meeting_70 : decode b_M_meeting 70 = .ok (.aload_n 0, 1) := by decide +kernel
theorem d_M_meeting_71 : decode b_M_meeting 71 = .ok (.iload_n 2, 1) := by decide +kernel
theorem d_M_meeting_72 : decode b_M_meeting 72 = .ok (.iload_n 1, 1) := by decide +kernel
theorem d_M_meeting_73 : decode b_M_meeting 73 = .ok (.iload_n 3, 1) := by decide +kernel
theorem d_M_meeting_74 : decode b_M_meeting 74 = .ok (.bipush 64, 2) := by decide +kernel
theorem d_M_meeting_76 : decode b_M_meeting 76 = .ok (.invokevirtual 214, 3) := by decide +kernel
theorem d_M_meeting_79 : decode b_M_meeting 79 = .ok (.iadd, 1) := by decide +kernel
theorem d_M_meeting_80 : decode b_M_meeting 80 = .ok (.ireturn, 1) := by decide +kernel
theorem d_M_meet_0 : decode b_M_meet 0 = .ok (.aload_n 0, 1) := by decide +kernel
theorem d_M_meet_1 : decode b_M_meet 1 = .ok (.iload_n 1, 1) := by decide +kernel
theorem d_M_meet_2 : decode b_M_meet 2 = .ok (.iload_n 2, 1) := by decide +kernel
theorem d_M_meet_3 : decode b_M_meet 3 = .ok (.iload_n 3, 1) := by decide +kernel
theorem d_M_meet_4 : decode b_M_meet 4 = .ok (.invokevirtual 217, 3) := by decide +kernel
theorem d_M_meet_7 : decode b_M_meet 7 = .ok (.ireturn, 1) := by decide +kernel
theorem d_M_breakOff_0 : decode b_M_breakOff 0 = .ok (.aload_n 0, 1) := by decide +kernel
theorem d_M_breakOff_1 : decode b_M_breakOff 1 = .ok (.iload_n 1, 1) := by decide +kernel
theorem d_M_breakOff_2 : decode b_M_breakOff 2 = .ok (.iload_n 2, 1) := by decide +kernel
theorem d_M_breakOff_3 : decode b_M_breakOff 3 = .ok (.iload_n 3, 1) := by decide +kernel
theorem d_M_breakOff_4 : decode b_M_breakOff 4 = .ok (.invokevirtual 217, 3) := by decide +kernel
theorem d_M_breakOff_7 : decode b_M_breakOff 7 = .ok (.istore 4, 2) := by decide +kernel
theorem d_M_breakOff_9 : decode b_M_breakOff 9 = .ok (.aload_n 0, 1) := by decide +kernel
theorem d_M_breakOff_10 : decode b_M_breakOff 10 = .ok (.getfield 198, 3) := by decide +kernel
theorem d_M_breakOff_13 : decode b_M_breakOff 13 = .ok (.ifCond .ge 6, 3) := by decide +kernel
theorem d_M_breakOff_16 : decode b_M_breakOff 16 = .ok (.iload 4, 2) := by decide +kernel
theorem d_M_breakOff_18 : decode b_M_breakOff 18 = .ok (.ireturn, 1) := by decide +kernel
theorem d_M_breakOff_19 : decode b_M_breakOff 19 = .ok (.aload_n 0, 1) := by decide +kernel
theorem d_M_breakOff_20 : decode b_M_breakOff 20 = .ok (.getfield 56, 3) := by decide +kernel
theorem d_M_breakOff_23 : decode b_M_breakOff 23 = .ok (.aload_n 0, 1) := by decide +kernel
theorem d_M_breakOff_24 : decode b_M_breakOff 24 = .ok (.getfield 198, 3) := by decide +kernel
theorem d_M_breakOff_27 : decode b_M_breakOff 27 = .ok (.iconst 1, 1) := by decide +kernel
theorem d_M_breakOff_28 : decode b_M_breakOff 28 = .ok (.bastore, 1) := by decide +kernel
theorem d_M_breakOff_29 : decode b_M_breakOff 29 = .ok (.aload_n 0, 1) := by decide +kernel
theorem d_M_breakOff_30 : decode b_M_breakOff 30 = .ok (.getfield 59, 3) := by decide +kernel
theorem d_M_breakOff_33 : decode b_M_breakOff 33 = .ok (.aload_n 0, 1) := by decide +kernel
theorem d_M_breakOff_34 : decode b_M_breakOff 34 = .ok (.getfield 198, 3) := by decide +kernel
theorem d_M_breakOff_37 : decode b_M_breakOff 37 = .ok (.aload_n 0, 1) := by decide +kernel
theorem d_M_breakOff_38 : decode b_M_breakOff 38 = .ok (.getfield 201, 3) := by decide +kernel
theorem d_M_breakOff_41 : decode b_M_breakOff 41 = .ok (.iastore, 1) := by decide +kernel
theorem d_M_breakOff_42 : decode b_M_breakOff 42 = .ok (.aload_n 0, 1) := by decide +kernel
theorem d_M_breakOff_43 : decode b_M_breakOff 43 = .ok (.getfield 62, 3) := by decide +kernel
theorem d_M_breakOff_46 : decode b_M_breakOff 46 = .ok (.aload_n 0, 1) := by decide +kernel
theorem d_M_breakOff_47 : decode b_M_breakOff 47 = .ok (.getfield 198, 3) := by decide +kernel
theorem d_M_breakOff_50 : decode b_M_breakOff 50 = .ok (.aload_n 0, 1) := by decide +kernel
theorem d_M_breakOff_51 : decode b_M_breakOff 51 = .ok (.getfield 201, 3) := by decide +kernel
theorem d_M_breakOff_54 : decode b_M_breakOff 54 = .ok (.iastore, 1) := by decide +kernel
theorem d_M_breakOff_55 : decode b_M_breakOff 55 = .ok (.iconst 0, 1) := by decide +kernel
theorem d_M_breakOff_56 : decode b_M_breakOff 56 = .ok (.istore 5, 2) := by decide +kernel
theorem d_M_breakOff_58 : decode b_M_breakOff 58 = .ok (.iload 5, 2) := by decide +kernel
theorem d_M_breakOff_60 : decode b_M_breakOff 60 = .ok (.bipush 8, 2) := by decide +kernel
theorem d_M_breakOff_62 : decode b_M_breakOff 62 = .ok (.if_icmp .ge 31, 3) := by decide +kernel
theorem d_M_breakOff_65 : decode b_M_breakOff 65 = .ok (.aload_n 0, 1) := by decide +kernel
theorem d_M_breakOff_66 : decode b_M_breakOff 66 = .ok (.getfield 65, 3) := by decide +kernel
theorem d_M_breakOff_69 : decode b_M_breakOff 69 = .ok (.bipush 8, 2) := by decide +kernel
theorem d_M_breakOff_71 : decode b_M_breakOff 71 = .ok (.aload_n 0, 1) := by decide +kernel
theorem d_M_breakOff_72 : decode b_M_breakOff 72 = .ok (.getfield 198, 3) := by decide +kernel
theorem d_M_breakOff_75 : decode b_M_breakOff 75 = .ok (.imul, 1) := by decide +kernel
theorem d_M_breakOff_76 : decode b_M_breakOff 76 = .ok (.iload 5, 2) := by decide +kernel
theorem d_M_breakOff_78 : decode b_M_breakOff 78 = .ok (.iadd, 1) := by decide +kernel
theorem d_M_breakOff_79 : decode b_M_breakOff 79 = .ok (.aload_n 0, 1) := by decide +kernel
theorem d_M_breakOff_80 : decode b_M_breakOff 80 = .ok (.getfield 101, 3) := by decide +kernel
theorem d_M_breakOff_83 : decode b_M_breakOff 83 = .ok (.iload 5, 2) := by decide +kernel
theorem d_M_breakOff_85 : decode b_M_breakOff 85 = .ok (.iaload, 1) := by decide +kernel
theorem d_M_breakOff_86 : decode b_M_breakOff 86 = .ok (.iastore, 1) := by decide +kernel
theorem d_M_breakOff_87 : decode b_M_breakOff 87 = .ok (.iinc 5 1, 3) := by decide +kernel
theorem d_M_breakOff_90 : decode b_M_breakOff 90 = .ok (.goto (-32), 3) := by decide +kernel
theorem d_M_breakOff_93 : decode b_M_breakOff 93 = .ok (.iload 4, 2) := by decide +kernel
theorem d_M_breakOff_95 : decode b_M_breakOff 95 = .ok (.ireturn, 1) := by decide +kernel
theorem d_M_reboot_0 : decode b_M_reboot 0 = .ok (.aload_n 0, 1) := by decide +kernel
theorem d_M_reboot_1 : decode b_M_reboot 1 = .ok (.iload_n 1, 1) := by decide +kernel
theorem d_M_reboot_2 : decode b_M_reboot 2 = .ok (.bipush 11, 2) := by decide +kernel
theorem d_M_reboot_4 : decode b_M_reboot 4 = .ok (.invokestatic 108, 3) := by decide +kernel
theorem d_M_reboot_7 : decode b_M_reboot 7 = .ok (.ifCond .eq 7, 3) := by decide +kernel
theorem d_M_reboot_10 : decode b_M_reboot 10 = .ok (.iconst 0, 1) := by decide +kernel
theorem d_M_reboot_11 : decode b_M_reboot 11 = .ok (.goto 4, 3) := by decide +kernel
theorem d_M_reboot_14 : decode b_M_reboot 14 = .ok (.iconst 1, 1) := by decide +kernel
theorem d_M_reboot_15 : decode b_M_reboot 15 = .ok (.putfield 104, 3) := by decide +kernel
theorem d_M_reboot_18 : decode b_M_reboot 18 = .ok (.aload_n 0, 1) := by decide +kernel
theorem d_M_reboot_19 : decode b_M_reboot 19 = .ok (.getfield 104, 3) := by decide +kernel
theorem d_M_reboot_22 : decode b_M_reboot 22 = .ok (.ifCond .eq 4, 3) := by decide +kernel
theorem d_M_reboot_25 : decode b_M_reboot 25 = .ok (.return_, 1) := by decide +kernel
theorem d_M_reboot_26 : decode b_M_reboot 26 = .ok (.bipush 64, 2) := by decide +kernel
theorem d_M_reboot_28 : decode b_M_reboot 28 = .ok (.iload_n 1, 1) := by decide +kernel
theorem d_M_reboot_29 : decode b_M_reboot 29 = .ok (.imul, 1) := by decide +kernel
theorem d_M_reboot_30 : decode b_M_reboot 30 = .ok (.istore_n 2, 1) := by decide +kernel
theorem d_M_reboot_31 : decode b_M_reboot 31 = .ok (.iload_n 2, 1) := by decide +kernel
theorem d_M_reboot_32 : decode b_M_reboot 32 = .ok (.bipush 64, 2) := by decide +kernel
theorem d_M_reboot_34 : decode b_M_reboot 34 = .ok (.iload_n 1, 1) := by decide +kernel
theorem d_M_reboot_35 : decode b_M_reboot 35 = .ok (.imul, 1) := by decide +kernel
theorem d_M_reboot_36 : decode b_M_reboot 36 = .ok (.bipush 64, 2) := by decide +kernel
theorem d_M_reboot_38 : decode b_M_reboot 38 = .ok (.iadd, 1) := by decide +kernel
theorem d_M_reboot_39 : decode b_M_reboot 39 = .ok (.if_icmp .ge 25, 3) := by decide +kernel
theorem d_M_reboot_42 : decode b_M_reboot 42 = .ok (.aload_n 0, 1) := by decide +kernel
theorem d_M_reboot_43 : decode b_M_reboot 43 = .ok (.getfield 56, 3) := by decide +kernel
theorem d_M_reboot_46 : decode b_M_reboot 46 = .ok (.iload_n 2, 1) := by decide +kernel
theorem d_M_reboot_47 : decode b_M_reboot 47 = .ok (.baload, 1) := by decide +kernel
theorem d_M_reboot_48 : decode b_M_reboot 48 = .ok (.ifCond .ne 10, 3) := by decide +kernel
theorem d_M_reboot_51 : decode b_M_reboot 51 = .ok (.aload_n 0, 1) := by decide +kernel
theorem d_M_reboot_52 : decode b_M_reboot 52 = .ok (.getfield 62, 3) := by decide +kernel
theorem d_M_reboot_55 : decode b_M_reboot 55 = .ok (.iload_n 2, 1) := by decide +kernel
theorem d_M_reboot_56 : decode b_M_reboot 56 = .ok (.iconst 0, 1) := by decide +kernel
theorem d_M_reboot_57 : decode b_M_reboot 57 = .ok (.iastore, 1) := by decide +kernel
theorem d_M_reboot_58 : decode b_M_reboot 58 = .ok (.iinc 2 1, 3) := by decide +kernel
theorem d_M_reboot_61 : decode b_M_reboot 61 = .ok (.goto (-30), 3) := by decide +kernel
theorem d_M_reboot_64 : decode b_M_reboot 64 = .ok (.iconst 0, 1) := by decide +kernel
theorem d_M_reboot_65 : decode b_M_reboot 65 = .ok (.istore_n 2, 1) := by decide +kernel
theorem d_M_reboot_66 : decode b_M_reboot 66 = .ok (.iload_n 2, 1) := by decide +kernel
theorem d_M_reboot_67 : decode b_M_reboot 67 = .ok (.aload_n 0, 1) := by decide +kernel
theorem d_M_reboot_68 : decode b_M_reboot 68 = .ok (.getfield 112, 3) := by decide +kernel
theorem d_M_reboot_71 : decode b_M_reboot 71 = .ok (.if_icmp .ge 41, 3) := by decide +kernel
theorem d_M_reboot_74 : decode b_M_reboot 74 = .ok (.aload_n 0, 1) := by decide +kernel
theorem d_M_reboot_75 : decode b_M_reboot 75 = .ok (.getfield 34, 3) := by decide +kernel
theorem d_M_reboot_78 : decode b_M_reboot 78 = .ok (.iload_n 2, 1) := by decide +kernel
theorem d_M_reboot_79 : decode b_M_reboot 79 = .ok (.iaload, 1) := by decide +kernel
theorem d_M_reboot_80 : decode b_M_reboot 80 = .ok (.iload_n 1, 1) := by decide +kernel
theorem d_M_reboot_81 : decode b_M_reboot 81 = .ok (.if_icmp .eq 25, 3) := by decide +kernel
theorem d_M_reboot_84 : decode b_M_reboot 84 = .ok (.aload_n 0, 1) := by decide +kernel
theorem d_M_reboot_85 : decode b_M_reboot 85 = .ok (.getfield 31, 3) := by decide +kernel
theorem d_M_reboot_88 : decode b_M_reboot 88 = .ok (.iload_n 2, 1) := by decide +kernel
theorem d_M_reboot_89 : decode b_M_reboot 89 = .ok (.iaload, 1) := by decide +kernel
theorem d_M_reboot_90 : decode b_M_reboot 90 = .ok (.iload_n 1, 1) := by decide +kernel
theorem d_M_reboot_91 : decode b_M_reboot 91 = .ok (.if_icmp .eq 15, 3) := by decide +kernel
theorem d_M_reboot_94 : decode b_M_reboot 94 = .ok (.aload_n 0, 1) := by decide +kernel
theorem d_M_reboot_95 : decode b_M_reboot 95 = .ok (.getfield 68, 3) := by decide +kernel
theorem d_M_reboot_98 : decode b_M_reboot 98 = .ok (.bipush 16, 2) := by decide +kernel
theorem d_M_reboot_100 : decode b_M_reboot 100 = .ok (.iload_n 1, 1) := by decide +kernel
theorem d_M_reboot_101 : decode b_M_reboot 101 = .ok (.imul, 1) := by decide +kernel
theorem d_M_reboot_102 : decode b_M_reboot 102 = .ok (.iload_n 2, 1) := by decide +kernel
theorem d_M_reboot_103 : decode b_M_reboot 103 = .ok (.iadd, 1) := by decide +kernel
theorem d_M_reboot_104 : decode b_M_reboot 104 = .ok (.iconst 0, 1) := by decide +kernel
theorem d_M_reboot_105 : decode b_M_reboot 105 = .ok (.iastore, 1) := by decide +kernel
theorem d_M_reboot_106 : decode b_M_reboot 106 = .ok (.iinc 2 1, 3) := by decide +kernel
theorem d_M_reboot_109 : decode b_M_reboot 109 = .ok (.goto (-43), 3) := by decide +kernel
theorem d_M_reboot_112 : decode b_M_reboot 112 = .ok (.aload_n 0, 1) := by decide +kernel
theorem d_M_reboot_113 : decode b_M_reboot 113 = .ok (.getfield 22, 3) := by decide +kernel
theorem d_M_reboot_116 : decode b_M_reboot 116 = .ok (.iload_n 1, 1) := by decide +kernel
theorem d_M_reboot_117 : decode b_M_reboot 117 = .ok (.iconst 0, 1) := by decide +kernel
theorem d_M_reboot_118 : decode b_M_reboot 118 = .ok (.iastore, 1) := by decide +kernel
theorem d_M_reboot_119 : decode b_M_reboot 119 = .ok (.return_, 1) := by decide +kernel
theorem d_M_spoil_0 : decode b_M_spoil 0 = .ok (.iload_n 1, 1) := by decide +kernel
theorem d_M_spoil_1 : decode b_M_spoil 1 = .ok (.bipush 11, 2) := by decide +kernel
theorem d_M_spoil_3 : decode b_M_spoil 3 = .ok (.invokestatic 108, 3) := by decide +kernel
theorem d_M_spoil_6 : decode b_M_spoil 6 = .ok (.ifCond .eq 36, 3) := by decide +kernel
theorem d_M_spoil_9 : decode b_M_spoil 9 = .ok (.aload_n 0, 1) := by decide +kernel
theorem d_M_spoil_10 : decode b_M_spoil 10 = .ok (.iload_n 2, 1) := by decide +kernel
theorem d_M_spoil_11 : decode b_M_spoil 11 = .ok (.invokevirtual 220, 3) := by decide +kernel
theorem d_M_spoil_14 : decode b_M_spoil 14 = .ok (.ifCond .eq 28, 3) := by decide +kernel
theorem d_M_spoil_17 : decode b_M_spoil 17 = .ok (.iload_n 3, 1) := by decide +kernel
theorem d_M_spoil_18 : decode b_M_spoil 18 = .ok (.ifCond .lt 24, 3) := by decide +kernel
theorem d_M_spoil_21 : decode b_M_spoil 21 = .ok (.iload_n 3, 1) := by decide +kernel
theorem d_M_spoil_22 : decode b_M_spoil 22 = .ok (.iconst 4, 1) := by decide +kernel
theorem d_M_spoil_23 : decode b_M_spoil 23 = .ok (.if_icmp .ge 19, 3) := by decide +kernel
theorem d_M_spoil_26 : decode b_M_spoil 26 = .ok (.iload 4, 2) := by decide +kernel
theorem d_M_spoil_28 : decode b_M_spoil 28 = .ok (.ifCond .lt 14, 3) := by decide +kernel
theorem d_M_spoil_31 : decode b_M_spoil 31 = .ok (.iload 4, 2) := by decide +kernel
theorem d_M_spoil_33 : decode b_M_spoil 33 = .ok (.bipush 8, 2) := by decide +kernel
theorem d_M_spoil_35 : decode b_M_spoil 35 = .ok (.if_icmp .ge 7, 3) := by decide +kernel
theorem d_M_spoil_38 : decode b_M_spoil 38 = .ok (.iconst 1, 1) := by decide +kernel
theorem d_M_spoil_39 : decode b_M_spoil 39 = .ok (.goto 4, 3) := by decide +kernel
theorem d_M_spoil_42 : decode b_M_spoil 42 = .ok (.iconst 0, 1) := by decide +kernel
theorem d_M_spoil_43 : decode b_M_spoil 43 = .ok (.istore 6, 2) := by decide +kernel
theorem d_M_spoil_45 : decode b_M_spoil 45 = .ok (.iload 6, 2) := by decide +kernel
theorem d_M_spoil_47 : decode b_M_spoil 47 = .ok (.ifCond .eq 22, 3) := by decide +kernel
theorem d_M_spoil_50 : decode b_M_spoil 50 = .ok (.bipush 8, 2) := by decide +kernel
theorem d_M_spoil_52 : decode b_M_spoil 52 = .ok (.iload_n 3, 1) := by decide +kernel
theorem d_M_spoil_53 : decode b_M_spoil 53 = .ok (.imul, 1) := by decide +kernel
theorem d_M_spoil_54 : decode b_M_spoil 54 = .ok (.iload 4, 2) := by decide +kernel
theorem d_M_spoil_56 : decode b_M_spoil 56 = .ok (.iadd, 1) := by decide +kernel
theorem d_M_spoil_57 : decode b_M_spoil 57 = .ok (.aload_n 0, 1) := by decide +kernel
theorem d_M_spoil_58 : decode b_M_spoil 58 = .ok (.getfield 25, 3) := by decide +kernel
theorem d_M_spoil_61 : decode b_M_spoil 61 = .ok (.iload_n 2, 1) := by decide +kernel
theorem d_M_spoil_62 : decode b_M_spoil 62 = .ok (.iaload, 1) := by decide +kernel
theorem d_M_spoil_63 : decode b_M_spoil 63 = .ok (.if_icmp .lt 6, 3) := by decide +kernel
theorem d_M_spoil_66 : decode b_M_spoil 66 = .ok (.iconst 0, 1) := by decide +kernel
theorem d_M_spoil_67 : decode b_M_spoil 67 = .ok (.istore 6, 2) := by decide +kernel
theorem d_M_spoil_69 : decode b_M_spoil 69 = .ok (.aload_n 0, 1) := by decide +kernel
theorem d_M_spoil_70 : decode b_M_spoil 70 = .ok (.iload 6, 2) := by decide +kernel
theorem d_M_spoil_72 : decode b_M_spoil 72 = .ok (.ifCond .ne 7, 3) := by decide +kernel
theorem d_M_spoil_75 : decode b_M_spoil 75 = .ok (.iconst 1, 1) := by decide +kernel
theorem d_M_spoil_76 : decode b_M_spoil 76 = .ok (.goto 22, 3) := by decide +kernel
theorem d_M_spoil_79 : decode b_M_spoil 79 = .ok (.aload_n 0, 1) := by decide +kernel
theorem d_M_spoil_80 : decode b_M_spoil 80 = .ok (.getfield 56, 3) := by decide +kernel
theorem d_M_spoil_83 : decode b_M_spoil 83 = .ok (.iload_n 1, 1) := by decide +kernel
theorem d_M_spoil_84 : decode b_M_spoil 84 = .ok (.iload_n 2, 1) := by decide +kernel
theorem d_M_spoil_85 : decode b_M_spoil 85 = .ok (.iload_n 3, 1) := by decide +kernel
theorem d_M_spoil_86 : decode b_M_spoil 86 = .ok (.invokestatic 146, 3) := by decide +kernel
theorem d_M_spoil_89 : decode b_M_spoil 89 = .ok (.baload, 1) := by decide +kernel
theorem d_M_spoil_90 : decode b_M_spoil 90 = .ok (.ifCond .ne 7, 3) := by decide +kernel
theorem d_M_spoil_93 : decode b_M_spoil 93 = .ok (.iconst 2, 1) := by decide +kernel
theorem d_M_spoil_94 : decode b_M_spoil 94 = .ok (.goto 4, 3) := by decide +kernel
theorem d_M_spoil_97 : decode b_M_spoil 97 = .ok (.iconst 0, 1) := by decide +kernel
theorem d_M_spoil_98 : decode b_M_spoil 98 = .ok (.putfield 104, 3) := by decide +kernel
theorem d_M_spoil_101 : decode b_M_spoil 101 = .ok (.aload_n 0, 1) := by decide +kernel
theorem d_M_spoil_102 : decode b_M_spoil 102 = .ok (.getfield 104, 3) := by decide +kernel
theorem d_M_spoil_105 : decode b_M_spoil 105 = .ok (.ifCond .eq 5, 3) := by decide +kernel
theorem d_M_spoil_108 : decode b_M_spoil 108 = .ok (.iconst 0, 1) := by decide +kernel
theorem d_M_spoil_109 : decode b_M_spoil 109 = .ok (.ireturn, 1) := by decide +kernel
theorem d_M_spoil_110 : decode b_M_spoil 110 = .ok (.bipush 8, 2) := by decide +kernel
theorem d_M_spoil_112 : decode b_M_spoil 112 = .ok (.iload_n 1, 1) := by decide +kernel
theorem d_M_spoil_113 : decode b_M_spoil 113 = .ok (.iload_n 2, 1) := by decide +kernel
theorem d_M_spoil_114 : decode b_M_spoil 114 = .ok (.iload_n 3, 1) := by decide +kernel
theorem d_M_spoil_115 : decode b_M_spoil 115 = .ok (.invokestatic 146, 3) := by decide +kernel
theorem d_M_spoil_118 : decode b_M_spoil 118 = .ok (.imul, 1) := by decide +kernel
theorem d_M_spoil_119 : decode b_M_spoil 119 = .ok (.iload 4, 2) := by decide +kernel
theorem d_M_spoil_121 : decode b_M_spoil 121 = .ok (.iadd, 1) := by decide +kernel
theorem d_M_spoil_122 : decode b_M_spoil 122 = .ok (.istore 7, 2) := by decide +kernel
theorem d_M_spoil_124 : decode b_M_spoil 124 = .ok (.aload_n 0, 1) := by decide +kernel
theorem d_M_spoil_125 : decode b_M_spoil 125 = .ok (.getfield 65, 3) := by decide +kernel
theorem d_M_spoil_128 : decode b_M_spoil 128 = .ok (.iload 7, 2) := by decide +kernel
theorem d_M_spoil_130 : decode b_M_spoil 130 = .ok (.dup2, 1) := by decide +kernel
theorem d_M_spoil_131 : decode b_M_spoil 131 = .ok (.iaload, 1) := by decide +kernel
theorem d_M_spoil_132 : decode b_M_spoil 132 = .ok (.iload 5, 2) := by decide +kernel
theorem d_M_spoil_134 : decode b_M_spoil 134 = .ok (.sipush 255, 3) := by decide +kernel
theorem d_M_spoil_137 : decode b_M_spoil 137 = .ok (.iand, 1) := by decide +kernel
theorem d_M_spoil_138 : decode b_M_spoil 138 = .ok (.ixor, 1) := by decide +kernel
theorem d_M_spoil_139 : decode b_M_spoil 139 = .ok (.iastore, 1) := by decide +kernel
theorem d_M_spoil_140 : decode b_M_spoil 140 = .ok (.aload_n 0, 1) := by decide +kernel
theorem d_M_spoil_141 : decode b_M_spoil 141 = .ok (.getfield 65, 3) := by decide +kernel
theorem d_M_spoil_144 : decode b_M_spoil 144 = .ok (.iload 7, 2) := by decide +kernel
theorem d_M_spoil_146 : decode b_M_spoil 146 = .ok (.iaload, 1) := by decide +kernel
theorem d_M_spoil_147 : decode b_M_spoil 147 = .ok (.ireturn, 1) := by decide +kernel
theorem d_M_isBox_0 : decode b_M_isBox 0 = .ok (.iload_n 0, 1) := by decide +kernel
theorem d_M_isBox_1 : decode b_M_isBox 1 = .ok (.invokestatic 119, 3) := by decide +kernel
theorem d_M_isBox_4 : decode b_M_isBox 4 = .ok (.ifCond .eq 15, 3) := by decide +kernel
theorem d_M_isBox_7 : decode b_M_isBox 7 = .ok (.iload_n 1, 1) := by decide +kernel
theorem d_M_isBox_8 : decode b_M_isBox 8 = .ok (.iconst 2, 1) := by decide +kernel
theorem d_M_isBox_9 : decode b_M_isBox 9 = .ok (.invokestatic 108, 3) := by decide +kernel
theorem d_M_isBox_12 : decode b_M_isBox 12 = .ok (.ifCond .eq 7, 3) := by decide +kernel
theorem d_M_isBox_15 : decode b_M_isBox 15 = .ok (.iconst 1, 1) := by decide +kernel
theorem d_M_isBox_16 : decode b_M_isBox 16 = .ok (.goto 4, 3) := by decide +kernel
theorem d_M_isBox_19 : decode b_M_isBox 19 = .ok (.iconst 0, 1) := by decide +kernel
theorem d_M_isBox_20 : decode b_M_isBox 20 = .ok (.ireturn, 1) := by decide +kernel
theorem d_M_box_0 : decode b_M_box 0 = .ok (.aload_n 0, 1) := by decide +kernel
theorem d_M_box_1 : decode b_M_box 1 = .ok (.iload_n 1, 1) := by decide +kernel
theorem d_M_box_2 : decode b_M_box 2 = .ok (.iload_n 2, 1) := by decide +kernel
theorem d_M_box_3 : decode b_M_box 3 = .ok (.invokestatic 223, 3) := by decide +kernel
theorem d_M_box_6 : decode b_M_box 6 = .ok (.ifCond .eq 15, 3) := by decide +kernel
theorem d_M_box_9 : decode b_M_box 9 = .ok (.iload_n 3, 1) := by decide +kernel
theorem d_M_box_10 : decode b_M_box 10 = .ok (.iconst 2, 1) := by decide +kernel
theorem d_M_box_11 : decode b_M_box 11 = .ok (.invokestatic 108, 3) := by decide +kernel
theorem d_M_box_14 : decode b_M_box 14 = .ok (.ifCond .eq 7, 3) := by decide +kernel
theorem d_M_box_17 : decode b_M_box 17 = .ok (.iconst 0, 1) := by decide +kernel
theorem d_M_box_18 : decode b_M_box 18 = .ok (.goto 4, 3) := by decide +kernel
theorem d_M_box_21 : decode b_M_box 21 = .ok (.iconst 1, 1) := by decide +kernel
theorem d_M_box_22 : decode b_M_box 22 = .ok (.putfield 104, 3) := by decide +kernel
theorem d_M_box_25 : decode b_M_box 25 = .ok (.aload_n 0, 1) := by decide +kernel
theorem d_M_box_26 : decode b_M_box 26 = .ok (.getfield 104, 3) := by decide +kernel
theorem d_M_box_29 : decode b_M_box 29 = .ok (.ifCond .eq 5, 3) := by decide +kernel
theorem d_M_box_32 : decode b_M_box 32 = .ok (.iconst 0, 1) := by decide +kernel
theorem d_M_box_33 : decode b_M_box 33 = .ok (.ireturn, 1) := by decide +kernel
theorem d_M_box_34 : decode b_M_box 34 = .ok (.iconst 3, 1) := by decide +kernel
theorem d_M_box_35 : decode b_M_box 35 = .ok (.iload_n 1, 1) := by decide +kernel
theorem d_M_box_36 : decode b_M_box 36 = .ok (.imul, 1) := by decide +kernel
theorem d_M_box_37 : decode b_M_box 37 = .ok (.iload_n 2, 1) := by decide +kernel
theorem d_M_box_38 : decode b_M_box 38 = .ok (.iadd, 1) := by decide +kernel
theorem d_M_box_39 : decode b_M_box 39 = .ok (.istore 4, 2) := by decide +kernel
theorem d_M_box_41 : decode b_M_box 41 = .ok (.iload_n 3, 1) := by decide +kernel
theorem d_M_box_42 : decode b_M_box 42 = .ok (.ifCond .ne 13, 3) := by decide +kernel
theorem d_M_box_45 : decode b_M_box 45 = .ok (.aload_n 0, 1) := by decide +kernel
theorem d_M_box_46 : decode b_M_box 46 = .ok (.getfield 80, 3) := by decide +kernel
theorem d_M_box_49 : decode b_M_box 49 = .ok (.iload 4, 2) := by decide +kernel
theorem d_M_box_51 : decode b_M_box 51 = .ok (.iaload, 1) := by decide +kernel
theorem d_M_box_52 : decode b_M_box 52 = .ok (.goto 24, 3) := by decide +kernel
theorem d_M_box_55 : decode b_M_box 55 = .ok (.iload_n 3, 1) := by decide +kernel
theorem d_M_box_56 : decode b_M_box 56 = .ok (.iconst 1, 1) := by decide +kernel
theorem d_M_box_57 : decode b_M_box 57 = .ok (.if_icmp .ne 12, 3) := by decide +kernel
theorem d_M_box_60 : decode b_M_box 60 = .ok (.aload_n 0, 1) := by decide +kernel
theorem d_M_box_61 : decode b_M_box 61 = .ok (.iload 4, 2) := by decide +kernel
theorem d_M_box_63 : decode b_M_box 63 = .ok (.invokevirtual 170, 3) := by decide +kernel
theorem d_M_box_66 : decode b_M_box 66 = .ok (.goto 10, 3) := by decide +kernel
theorem d_M_box_69 : decode b_M_box 69 = .ok (.aload_n 0, 1) := by decide +kernel
theorem d_M_box_70 : decode b_M_box 70 = .ok (.getfield 77, 3) := by decide +kernel
theorem d_M_box_73 : decode b_M_box 73 = .ok (.iload 4, 2) := by decide +kernel
theorem d_M_box_75 : decode b_M_box 75 = .ok (.iaload, 1) := by decide +kernel
theorem d_M_box_76 : decode b_M_box 76 = .ok (.ireturn, 1) := by decide +kernel
theorem d_M_read_0 : decode b_M_read 0 = .ok (.iconst 3, 1) := by decide +kernel
theorem d_M_read_1 : decode b_M_read 1 = .ok (.iload_n 1, 1) := by decide +kernel
theorem d_M_read_2 : decode b_M_read 2 = .ok (.imul, 1) := by decide +kernel
theorem d_M_read_3 : decode b_M_read 3 = .ok (.iload_n 2, 1) := by decide +kernel
theorem d_M_read_4 : decode b_M_read 4 = .ok (.iadd, 1) := by decide +kernel
theorem d_M_read_5 : decode b_M_read 5 = .ok (.istore 5, 2) := by decide +kernel
theorem d_M_read_7 : decode b_M_read 7 = .ok (.aload_n 0, 1) := by decide +kernel
theorem d_M_read_8 : decode b_M_read 8 = .ok (.iload_n 1, 1) := by decide +kernel
theorem d_M_read_9 : decode b_M_read 9 = .ok (.iload_n 2, 1) := by decide +kernel
theorem d_M_read_10 : decode b_M_read 10 = .ok (.invokestatic 223, 3) := by decide +kernel
theorem d_M_read_13 : decode b_M_read 13 = .ok (.ifCond .ne 7, 3) := by decide +kernel
theorem d_M_read_16 : decode b_M_read 16 = .ok (.iconst 1, 1) := by decide +kernel
theorem d_M_read_17 : decode b_M_read 17 = .ok (.goto 50, 3) := by decide +kernel
theorem d_M_read_20 : decode b_M_read 20 = .ok (.iload_n 3, 1) := by decide +kernel
theorem d_M_read_21 : decode b_M_read 21 = .ok (.ifCond .lt 41, 3) := by decide +kernel
theorem d_M_read_24 : decode b_M_read 24 = .ok (.iload_n 3, 1) := by decide +kernel
theorem d_M_read_25 : decode b_M_read 25 = .ok (.aload_n 0, 1) := by decide +kernel
theorem d_M_read_26 : decode b_M_read 26 = .ok (.getfield 80, 3) := by decide +kernel
theorem d_M_read_29 : decode b_M_read 29 = .ok (.iload 5, 2) := by decide +kernel
theorem d_M_read_31 : decode b_M_read 31 = .ok (.iaload, 1) := by decide +kernel
theorem d_M_read_32 : decode b_M_read 32 = .ok (.if_icmp .ge 30, 3) := by decide +kernel
theorem d_M_read_35 : decode b_M_read 35 = .ok (.iload 4, 2) := by decide +kernel
theorem d_M_read_37 : decode b_M_read 37 = .ok (.ifCond .lt 25, 3) := by decide +kernel
theorem d_M_read_40 : decode b_M_read 40 = .ok (.iload 4, 2) := by decide +kernel
theorem d_M_read_42 : decode b_M_read 42 = .ok (.aload_n 0, 1) := by decide +kernel
theorem d_M_read_43 : decode b_M_read 43 = .ok (.getfield 25, 3) := by decide +kernel
theorem d_M_read_46 : decode b_M_read 46 = .ok (.aload_n 0, 1) := by decide +kernel
theorem d_M_read_47 : decode b_M_read 47 = .ok (.getfield 83, 3) := by decide +kernel
theorem d_M_read_50 : decode b_M_read 50 = .ok (.bipush 16, 2) := by decide +kernel
theorem d_M_read_52 : decode b_M_read 52 = .ok (.iload 5, 2) := by decide +kernel
theorem d_M_read_54 : decode b_M_read 54 = .ok (.imul, 1) := by decide +kernel
theorem d_M_read_55 : decode b_M_read 55 = .ok (.iload_n 3, 1) := by decide +kernel
theorem d_M_read_56 : decode b_M_read 56 = .ok (.iadd, 1) := by decide +kernel
theorem d_M_read_57 : decode b_M_read 57 = .ok (.iaload, 1) := by decide +kernel
theorem d_M_read_58 : decode b_M_read 58 = .ok (.iaload, 1) := by decide +kernel
theorem d_M_read_59 : decode b_M_read 59 = .ok (.if_icmp .lt 7, 3) := by decide +kernel
theorem d_M_read_62 : decode b_M_read 62 = .ok (.iconst 2, 1) := by decide +kernel
theorem d_M_read_63 : decode b_M_read 63 = .ok (.goto 4, 3) := by decide +kernel
theorem d_M_read_66 : decode b_M_read 66 = .ok (.iconst 0, 1) := by decide +kernel
theorem d_M_read_67 : decode b_M_read 67 = .ok (.putfield 104, 3) := by decide +kernel
theorem d_M_read_70 : decode b_M_read 70 = .ok (.aload_n 0, 1) := by decide +kernel
theorem d_M_read_71 : decode b_M_read 71 = .ok (.getfield 104, 3) := by decide +kernel
theorem d_M_read_74 : decode b_M_read 74 = .ok (.ifCond .eq 7, 3) := by decide +kernel
theorem d_M_read_77 : decode b_M_read 77 = .ok (.iconst 0, 1) := by decide +kernel
theorem d_M_read_78 : decode b_M_read 78 = .ok (.goto 26, 3) := by decide +kernel
theorem d_M_read_81 : decode b_M_read 81 = .ok (.aload_n 0, 1) := by decide +kernel
theorem d_M_read_82 : decode b_M_read 82 = .ok (.getfield 53, 3) := by decide +kernel
theorem d_M_read_85 : decode b_M_read 85 = .ok (.bipush 32, 2) := by decide +kernel
theorem d_M_read_87 : decode b_M_read 87 = .ok (.aload_n 0, 1) := by decide +kernel
theorem d_M_read_88 : decode b_M_read 88 = .ok (.getfield 83, 3) := by decide +kernel
theorem d_M_read_91 : decode b_M_read 91 = .ok (.bipush 16, 2) := by decide +kernel
theorem d_M_read_93 : decode b_M_read 93 = .ok (.iload 5, 2) := by decide +kernel
theorem d_M_read_95 : decode b_M_read 95 = .ok (.imul, 1) := by decide +kernel
theorem d_M_read_96 : decode b_M_read 96 = .ok (.iload_n 3, 1) := by decide +kernel
theorem d_M_read_97 : decode b_M_read 97 = .ok (.iadd, 1) := by decide +kernel
theorem d_M_read_98 : decode b_M_read 98 = .ok (.iaload, 1) := by decide +kernel
theorem d_M_read_99 : decode b_M_read 99 = .ok (.imul, 1) := by decide +kernel
theorem d_M_read_100 : decode b_M_read 100 = .ok (.iload 4, 2) := by decide +kernel
theorem d_M_read_102 : decode b_M_read 102 = .ok (.iadd, 1) := by decide +kernel
theorem d_M_read_103 : decode b_M_read 103 = .ok (.iaload, 1) := by decide +kernel
theorem d_M_read_104 : decode b_M_read 104 = .ok (.ireturn, 1) := by decide +kernel
theorem d_M_remove_0 : decode b_M_remove 0 = .ok (.iconst 3, 1) := by decide +kernel
theorem d_M_remove_1 : decode b_M_remove 1 = .ok (.iload_n 1, 1) := by decide +kernel
theorem d_M_remove_2 : decode b_M_remove 2 = .ok (.imul, 1) := by decide +kernel
theorem d_M_remove_3 : decode b_M_remove 3 = .ok (.iload_n 2, 1) := by decide +kernel
theorem d_M_remove_4 : decode b_M_remove 4 = .ok (.iadd, 1) := by decide +kernel
theorem d_M_remove_5 : decode b_M_remove 5 = .ok (.istore 4, 2) := by decide +kernel
theorem d_M_remove_7 : decode b_M_remove 7 = .ok (.aload_n 0, 1) := by decide +kernel
theorem d_M_remove_8 : decode b_M_remove 8 = .ok (.iload_n 1, 1) := by decide +kernel
theorem d_M_remove_9 : decode b_M_remove 9 = .ok (.iload_n 2, 1) := by decide +kernel
theorem d_M_remove_10 : decode b_M_remove 10 = .ok (.invokestatic 223, 3) := by decide +kernel
theorem d_M_remove_13 : decode b_M_remove 13 = .ok (.ifCond .ne 7, 3) := by decide +kernel
theorem d_M_remove_16 : decode b_M_remove 16 = .ok (.iconst 1, 1) := by decide +kernel
theorem d_M_remove_17 : decode b_M_remove 17 = .ok (.goto 23, 3) := by decide +kernel
theorem d_M_remove_20 : decode b_M_remove 20 = .ok (.iload_n 3, 1) := by decide +kernel
theorem d_M_remove_21 : decode b_M_remove 21 = .ok (.ifCond .lt 14, 3) := by decide +kernel
theorem d_M_remove_24 : decode b_M_remove 24 = .ok (.iload_n 3, 1) := by decide +kernel
theorem d_M_remove_25 : decode b_M_remove 25 = .ok (.aload_n 0, 1) := by decide +kernel
theorem d_M_remove_26 : decode b_M_remove 26 = .ok (.getfield 80, 3) := by decide +kernel
theorem d_M_remove_29 : decode b_M_remove 29 = .ok (.iload 4, 2) := by decide +kernel
theorem d_M_remove_31 : decode b_M_remove 31 = .ok (.iaload, 1) := by decide +kernel
theorem d_M_remove_32 : decode b_M_remove 32 = .ok (.if_icmp .lt 7, 3) := by decide +kernel
theorem d_M_remove_35 : decode b_M_remove 35 = .ok (.iconst 2, 1) := by decide +kernel
theorem d_M_remove_36 : decode b_M_remove 36 = .ok (.goto 4, 3) := by decide +kernel
theorem d_M_remove_39 : decode b_M_remove 39 = .ok (.iconst 0, 1) := by decide +kernel
theorem d_M_remove_40 : decode b_M_remove 40 = .ok (.putfield 104, 3) := by decide +kernel
theorem d_M_remove_43 : decode b_M_remove 43 = .ok (.aload_n 0, 1) := by decide +kernel
theorem d_M_remove_44 : decode b_M_remove 44 = .ok (.getfield 104, 3) := by decide +kernel
theorem d_M_remove_47 : decode b_M_remove 47 = .ok (.ifCond .eq 5, 3) := by decide +kernel
theorem d_M_remove_50 : decode b_M_remove 50 = .ok (.iconst 0, 1) := by decide +kernel
theorem d_M_remove_51 : decode b_M_remove 51 = .ok (.ireturn, 1) := by decide +kernel
theorem d_M_remove_52 : decode b_M_remove 52 = .ok (.aload_n 0, 1) := by decide +kernel
theorem d_M_remove_53 : decode b_M_remove 53 = .ok (.getfield 83, 3) := by decide +kernel
theorem d_M_remove_56 : decode b_M_remove 56 = .ok (.bipush 16, 2) := by decide +kernel
theorem d_M_remove_58 : decode b_M_remove 58 = .ok (.iload 4, 2) := by decide +kernel
theorem d_M_remove_60 : decode b_M_remove 60 = .ok (.imul, 1) := by decide +kernel
theorem d_M_remove_61 : decode b_M_remove 61 = .ok (.iload_n 3, 1) := by decide +kernel
theorem d_M_remove_62 : decode b_M_remove 62 = .ok (.iadd, 1) := by decide +kernel
theorem d_M_remove_63 : decode b_M_remove 63 = .ok (.iaload, 1) := by decide +kernel
theorem d_M_remove_64 : decode b_M_remove 64 = .ok (.istore 5, 2) := by decide +kernel
theorem d_M_remove_66 : decode b_M_remove 66 = .ok (.aload_n 0, 1) := by decide +kernel
theorem d_M_remove_67 : decode b_M_remove 67 = .ok (.getfield 80, 3) := by decide +kernel
theorem d_M_remove_70 : decode b_M_remove 70 = .ok (.iload 4, 2) := by decide +kernel
theorem d_M_remove_72 : decode b_M_remove 72 = .ok (.dup2, 1) := by decide +kernel
theorem d_M_remove_73 : decode b_M_remove 73 = .ok (.iaload, 1) := by decide +kernel
theorem d_M_remove_74 : decode b_M_remove 74 = .ok (.iconst 1, 1) := by decide +kernel
theorem d_M_remove_75 : decode b_M_remove 75 = .ok (.isub, 1) := by decide +kernel
theorem d_M_remove_76 : decode b_M_remove 76 = .ok (.iastore, 1) := by decide +kernel
theorem d_M_remove_77 : decode b_M_remove 77 = .ok (.iload_n 3, 1) := by decide +kernel
theorem d_M_remove_78 : decode b_M_remove 78 = .ok (.istore 6, 2) := by decide +kernel
theorem d_M_remove_80 : decode b_M_remove 80 = .ok (.iload 6, 2) := by decide +kernel
theorem d_M_remove_82 : decode b_M_remove 82 = .ok (.aload_n 0, 1) := by decide +kernel
theorem d_M_remove_83 : decode b_M_remove 83 = .ok (.getfield 80, 3) := by decide +kernel
theorem d_M_remove_86 : decode b_M_remove 86 = .ok (.iload 4, 2) := by decide +kernel
theorem d_M_remove_88 : decode b_M_remove 88 = .ok (.iaload, 1) := by decide +kernel
theorem d_M_remove_89 : decode b_M_remove 89 = .ok (.if_icmp .ge 37, 3) := by decide +kernel
theorem d_M_remove_92 : decode b_M_remove 92 = .ok (.aload_n 0, 1) := by decide +kernel
theorem d_M_remove_93 : decode b_M_remove 93 = .ok (.getfield 83, 3) := by decide +kernel
theorem d_M_remove_96 : decode b_M_remove 96 = .ok (.bipush 16, 2) := by decide +kernel
theorem d_M_remove_98 : decode b_M_remove 98 = .ok (.iload 4, 2) := by decide +kernel
theorem d_M_remove_100 : decode b_M_remove 100 = .ok (.imul, 1) := by decide +kernel
theorem d_M_remove_101 : decode b_M_remove 101 = .ok (.iload 6, 2) := by decide +kernel
theorem d_M_remove_103 : decode b_M_remove 103 = .ok (.iadd, 1) := by decide +kernel
theorem d_M_remove_104 : decode b_M_remove 104 = .ok (.aload_n 0, 1) := by decide +kernel
theorem d_M_remove_105 : decode b_M_remove 105 = .ok (.getfield 83, 3) := by decide +kernel
theorem d_M_remove_108 : decode b_M_remove 108 = .ok (.bipush 16, 2) := by decide +kernel
theorem d_M_remove_110 : decode b_M_remove 110 = .ok (.iload 4, 2) := by decide +kernel
theorem d_M_remove_112 : decode b_M_remove 112 = .ok (.imul, 1) := by decide +kernel
theorem d_M_remove_113 : decode b_M_remove 113 = .ok (.iload 6, 2) := by decide +kernel
theorem d_M_remove_115 : decode b_M_remove 115 = .ok (.iadd, 1) := by decide +kernel
theorem d_M_remove_116 : decode b_M_remove 116 = .ok (.iconst 1, 1) := by decide +kernel
theorem d_M_remove_117 : decode b_M_remove 117 = .ok (.iadd, 1) := by decide +kernel
theorem d_M_remove_118 : decode b_M_remove 118 = .ok (.iaload, 1) := by decide +kernel
theorem d_M_remove_119 : decode b_M_remove 119 = .ok (.iastore, 1) := by decide +kernel
theorem d_M_remove_120 : decode b_M_remove 120 = .ok (.iinc 6 1, 3) := by decide +kernel
theorem d_M_remove_123 : decode b_M_remove 123 = .ok (.goto (-43), 3) := by decide +kernel
theorem d_M_remove_126 : decode b_M_remove 126 = .ok (.aload_n 0, 1) := by decide +kernel
theorem d_M_remove_127 : decode b_M_remove 127 = .ok (.iload_n 1, 1) := by decide +kernel
theorem d_M_remove_128 : decode b_M_remove 128 = .ok (.invokevirtual 177, 3) := by decide +kernel
theorem d_M_remove_131 : decode b_M_remove 131 = .ok (.iload 5, 2) := by decide +kernel
theorem d_M_remove_133 : decode b_M_remove 133 = .ok (.ireturn, 1) := by decide +kernel
theorem d_M_status_0 : decode b_M_status 0 = .ok (.aload_n 0, 1) := by decide +kernel
theorem d_M_status_1 : decode b_M_status 1 = .ok (.aload_n 0, 1) := by decide +kernel
theorem d_M_status_2 : decode b_M_status 2 = .ok (.iload_n 1, 1) := by decide +kernel
theorem d_M_status_3 : decode b_M_status 3 = .ok (.invokevirtual 220, 3) := by decide +kernel
theorem d_M_status_6 : decode b_M_status 6 = .ok (.ifCond .eq 7, 3) := by decide +kernel
theorem d_M_status_9 : decode b_M_status 9 = .ok (.iconst 0, 1) := by decide +kernel
theorem d_M_status_10 : decode b_M_status 10 = .ok (.goto 4, 3) := by decide +kernel
theorem d_M_status_13 : decode b_M_status 13 = .ok (.iconst 1, 1) := by decide +kernel
theorem d_M_status_14 : decode b_M_status 14 = .ok (.putfield 104, 3) := by decide +kernel
theorem d_M_status_17 : decode b_M_status 17 = .ok (.aload_n 0, 1) := by decide +kernel
theorem d_M_status_18 : decode b_M_status 18 = .ok (.getfield 104, 3) := by decide +kernel
theorem d_M_status_21 : decode b_M_status 21 = .ok (.ifCond .eq 5, 3) := by decide +kernel
theorem d_M_status_24 : decode b_M_status 24 = .ok (.iconst 0, 1) := by decide +kernel
theorem d_M_status_25 : decode b_M_status 25 = .ok (.ireturn, 1) := by decide +kernel
theorem d_M_status_26 : decode b_M_status 26 = .ok (.aload_n 0, 1) := by decide +kernel
theorem d_M_status_27 : decode b_M_status 27 = .ok (.getfield 68, 3) := by decide +kernel
theorem d_M_status_30 : decode b_M_status 30 = .ok (.bipush 16, 2) := by decide +kernel
theorem d_M_status_32 : decode b_M_status 32 = .ok (.aload_n 0, 1) := by decide +kernel
theorem d_M_status_33 : decode b_M_status 33 = .ok (.getfield 31, 3) := by decide +kernel
theorem d_M_status_36 : decode b_M_status 36 = .ok (.iload_n 1, 1) := by decide +kernel
theorem d_M_status_37 : decode b_M_status 37 = .ok (.iaload, 1) := by decide +kernel
theorem d_M_status_38 : decode b_M_status 38 = .ok (.imul, 1) := by decide +kernel
theorem d_M_status_39 : decode b_M_status 39 = .ok (.iload_n 1, 1) := by decide +kernel
theorem d_M_status_40 : decode b_M_status 40 = .ok (.iadd, 1) := by decide +kernel
theorem d_M_status_41 : decode b_M_status 41 = .ok (.iaload, 1) := by decide +kernel
theorem d_M_status_42 : decode b_M_status 42 = .ok (.istore_n 2, 1) := by decide +kernel
theorem d_M_status_43 : decode b_M_status 43 = .ok (.iload_n 2, 1) := by decide +kernel
theorem d_M_status_44 : decode b_M_status 44 = .ok (.ifCond .eq 7, 3) := by decide +kernel
theorem d_M_status_47 : decode b_M_status 47 = .ok (.iload_n 2, 1) := by decide +kernel
theorem d_M_status_48 : decode b_M_status 48 = .ok (.goto 17, 3) := by decide +kernel
theorem d_M_status_51 : decode b_M_status 51 = .ok (.aload_n 0, 1) := by decide +kernel
theorem d_M_status_52 : decode b_M_status 52 = .ok (.getfield 49, 3) := by decide +kernel
theorem d_M_status_55 : decode b_M_status 55 = .ok (.iload_n 1, 1) := by decide +kernel
theorem d_M_status_56 : decode b_M_status 56 = .ok (.baload, 1) := by decide +kernel
theorem d_M_status_57 : decode b_M_status 57 = .ok (.ifCond .eq 7, 3) := by decide +kernel
theorem d_M_status_60 : decode b_M_status 60 = .ok (.iconst 3, 1) := by decide +kernel
theorem d_M_status_61 : decode b_M_status 61 = .ok (.goto 4, 3) := by decide +kernel
theorem d_M_status_64 : decode b_M_status 64 = .ok (.iconst 0, 1) := by decide +kernel
theorem d_M_status_65 : decode b_M_status 65 = .ok (.ireturn, 1) := by decide +kernel
theorem d_M_custodians_0 : decode b_M_custodians 0 = .ok (.aload_n 0, 1) := by decide +kernel
theorem d_M_custodians_1 : decode b_M_custodians 1 = .ok (.aload_n 0, 1) := by decide +kernel
theorem d_M_custodians_2 : decode b_M_custodians 2 = .ok (.iload_n 1, 1) := by decide +kernel
theorem d_M_custodians_3 : decode b_M_custodians 3 = .ok (.invokevirtual 220, 3) := by decide +kernel
theorem d_M_custodians_6 : decode b_M_custodians 6 = .ok (.ifCond .eq 7, 3) := by decide +kernel
theorem d_M_custodians_9 : decode b_M_custodians 9 = .ok (.iconst 0, 1) := by decide +kernel
theorem d_M_custodians_10 : decode b_M_custodians 10 = .ok (.goto 4, 3) := by decide +kernel
theorem d_M_custodians_13 : decode b_M_custodians 13 = .ok (.iconst 1, 1) := by decide +kernel
theorem d_M_custodians_14 : decode b_M_custodians 14 = .ok (.putfield 104, 3) := by decide +kernel
theorem d_M_custodians_17 : decode b_M_custodians 17 = .ok (.iconst 0, 1) := by decide +kernel
theorem d_M_custodians_18 : decode b_M_custodians 18 = .ok (.istore_n 2, 1) := by decide +kernel
theorem d_M_custodians_19 : decode b_M_custodians 19 = .ok (.iconst 0, 1) := by decide +kernel
theorem d_M_custodians_20 : decode b_M_custodians 20 = .ok (.istore_n 3, 1) := by decide +kernel
theorem d_M_custodians_21 : decode b_M_custodians 21 = .ok (.iload_n 3, 1) := by decide +kernel
theorem d_M_custodians_22 : decode b_M_custodians 22 = .ok (.bipush 12, 2) := by decide +kernel
theorem d_M_custodians_24 : decode b_M_custodians 24 = .ok (.if_icmp .ge 52, 3) := by decide +kernel
theorem d_M_custodians_27 : decode b_M_custodians 27 = .ok (.aload_n 0, 1) := by decide +kernel
theorem d_M_custodians_28 : decode b_M_custodians 28 = .ok (.getfield 104, 3) := by decide +kernel
theorem d_M_custodians_31 : decode b_M_custodians 31 = .ok (.ifCond .ne 45, 3) := by decide +kernel
theorem d_M_custodians_34 : decode b_M_custodians 34 = .ok (.iconst 0, 1) := by decide +kernel
theorem d_M_custodians_35 : decode b_M_custodians 35 = .ok (.istore 4, 2) := by decide +kernel
theorem d_M_custodians_37 : decode b_M_custodians 37 = .ok (.iload 4, 2) := by decide +kernel
theorem d_M_custodians_39 : decode b_M_custodians 39 = .ok (.iconst 4, 1) := by decide +kernel
theorem d_M_custodians_40 : decode b_M_custodians 40 = .ok (.if_icmp .ge 30, 3) := by decide +kernel
theorem d_M_custodians_43 : decode b_M_custodians 43 = .ok (.aload_n 0, 1) := by decide +kernel
theorem d_M_custodians_44 : decode b_M_custodians 44 = .ok (.getfield 56, 3) := by decide +kernel
theorem d_M_custodians_47 : decode b_M_custodians 47 = .ok (.iload_n 3, 1) := by decide +kernel
theorem d_M_custodians_48 : decode b_M_custodians 48 = .ok (.iload_n 1, 1) := by decide +kernel
theorem d_M_custodians_49 : decode b_M_custodians 49 = .ok (.iload 4, 2) := by decide +kernel
theorem d_M_custodians_51 : decode b_M_custodians 51 = .ok (.invokestatic 146, 3) := by decide +kernel
theorem d_M_custodians_54 : decode b_M_custodians 54 = .ok (.baload, 1) := by decide +kernel
theorem d_M_custodians_55 : decode b_M_custodians 55 = .ok (.ifCond .eq 9, 3) := by decide +kernel
theorem d_M_custodians_58 : decode b_M_custodians 58 = .ok (.iload_n 2, 1) := by decide +kernel
theorem d_M_custodians_59 : decode b_M_custodians 59 = .ok (.iconst 1, 1) := by decide +kernel
theorem d_M_custodians_60 : decode b_M_custodians 60 = .ok (.iload_n 3, 1) := by decide +kernel
theorem d_M_custodians_61 : decode b_M_custodians 61 = .ok (.ishl, 1) := by decide +kernel
theorem d_M_custodians_62 : decode b_M_custodians 62 = .ok (.ior, 1) := by decide +kernel
theorem d_M_custodians_63 : decode b_M_custodians 63 = .ok (.istore_n 2, 1) := by decide +kernel
theorem d_M_custodians_64 : decode b_M_custodians 64 = .ok (.iinc 4 1, 3) := by decide +kernel
theorem d_M_custodians_67 : decode b_M_custodians 67 = .ok (.goto (-30), 3) := by decide +kernel
theorem d_M_custodians_70 : decode b_M_custodians 70 = .ok (.iinc 3 1, 3) := by decide +kernel
theorem d_M_custodians_73 : decode b_M_custodians 73 = .ok (.goto (-52), 3) := by decide +kernel
theorem d_M_custodians_76 : decode b_M_custodians 76 = .ok (.iload_n 2, 1) := by decide +kernel
theorem d_M_custodians_77 : decode b_M_custodians 77 = .ok (.ireturn, 1) := by decide +kernel
theorem d_M_promise_0 : decode b_M_promise 0 = .ok (.aload_n 0, 1) := by decide +kernel
theorem d_M_promise_1 : decode b_M_promise 1 = .ok (.aload_n 0, 1) := by decide +kernel
theorem d_M_promise_2 : decode b_M_promise 2 = .ok (.iload_n 1, 1) := by decide +kernel
theorem d_M_promise_3 : decode b_M_promise 3 = .ok (.invokevirtual 220, 3) := by decide +kernel
theorem d_M_promise_6 : decode b_M_promise 6 = .ok (.ifCond .eq 7, 3) := by decide +kernel
theorem d_M_promise_9 : decode b_M_promise 9 = .ok (.iconst 0, 1) := by decide +kernel
theorem d_M_promise_10 : decode b_M_promise 10 = .ok (.goto 4, 3) := by decide +kernel
theorem d_M_promise_13 : decode b_M_promise 13 = .ok (.iconst 1, 1) := by decide +kernel
theorem d_M_promise_14 : decode b_M_promise 14 = .ok (.putfield 104, 3) := by decide +kernel
theorem d_M_promise_17 : decode b_M_promise 17 = .ok (.aload_n 0, 1) := by decide +kernel
theorem d_M_promise_18 : decode b_M_promise 18 = .ok (.getfield 104, 3) := by decide +kernel
theorem d_M_promise_21 : decode b_M_promise 21 = .ok (.ifCond .eq 7, 3) := by decide +kernel
theorem d_M_promise_24 : decode b_M_promise 24 = .ok (.iconst 0, 1) := by decide +kernel
theorem d_M_promise_25 : decode b_M_promise 25 = .ok (.goto 9, 3) := by decide +kernel
theorem d_M_promise_28 : decode b_M_promise 28 = .ok (.aload_n 0, 1) := by decide +kernel
theorem d_M_promise_29 : decode b_M_promise 29 = .ok (.getfield 46, 3) := by decide +kernel
theorem d_M_promise_32 : decode b_M_promise 32 = .ok (.iload_n 1, 1) := by decide +kernel
theorem d_M_promise_33 : decode b_M_promise 33 = .ok (.iaload, 1) := by decide +kernel
theorem d_M_promise_34 : decode b_M_promise 34 = .ok (.ireturn, 1) := by decide +kernel
theorem d_M_store_0 : decode b_M_store 0 = .ok (.aload_n 0, 1) := by decide +kernel
theorem d_M_store_1 : decode b_M_store 1 = .ok (.iload_n 1, 1) := by decide +kernel
theorem d_M_store_2 : decode b_M_store 2 = .ok (.bipush 11, 2) := by decide +kernel
theorem d_M_store_4 : decode b_M_store 4 = .ok (.invokestatic 108, 3) := by decide +kernel
theorem d_M_store_7 : decode b_M_store 7 = .ok (.ifCond .eq 15, 3) := by decide +kernel
theorem d_M_store_10 : decode b_M_store 10 = .ok (.iload_n 2, 1) := by decide +kernel
theorem d_M_store_11 : decode b_M_store 11 = .ok (.iconst 3, 1) := by decide +kernel
theorem d_M_store_12 : decode b_M_store 12 = .ok (.invokestatic 108, 3) := by decide +kernel
theorem d_M_store_15 : decode b_M_store 15 = .ok (.ifCond .eq 7, 3) := by decide +kernel
theorem d_M_store_18 : decode b_M_store 18 = .ok (.iconst 0, 1) := by decide +kernel
theorem d_M_store_19 : decode b_M_store 19 = .ok (.goto 4, 3) := by decide +kernel
theorem d_M_store_22 : decode b_M_store 22 = .ok (.iconst 1, 1) := by decide +kernel
theorem d_M_store_23 : decode b_M_store 23 = .ok (.putfield 104, 3) := by decide +kernel
theorem d_M_store_26 : decode b_M_store 26 = .ok (.aload_n 0, 1) := by decide +kernel
theorem d_M_store_27 : decode b_M_store 27 = .ok (.getfield 104, 3) := by decide +kernel
theorem d_M_store_30 : decode b_M_store 30 = .ok (.ifCond .eq 5, 3) := by decide +kernel
theorem d_M_store_33 : decode b_M_store 33 = .ok (.iconst 0, 1) := by decide +kernel
theorem d_M_store_34 : decode b_M_store 34 = .ok (.ireturn, 1) := by decide +kernel
theorem d_M_store_35 : decode b_M_store 35 = .ok (.iload_n 2, 1) := by decide +kernel
theorem d_M_store_36 : decode b_M_store 36 = .ok (.ifCond .ne 11, 3) := by decide +kernel
theorem d_M_store_39 : decode b_M_store 39 = .ok (.aload_n 0, 1) := by decide +kernel
theorem d_M_store_40 : decode b_M_store 40 = .ok (.iload_n 1, 1) := by decide +kernel
theorem d_M_store_41 : decode b_M_store 41 = .ok (.invokevirtual 183, 3) := by decide +kernel
theorem d_M_store_44 : decode b_M_store 44 = .ok (.goto 37, 3) := by decide +kernel
theorem d_M_store_47 : decode b_M_store 47 = .ok (.iload_n 2, 1) := by decide +kernel
theorem d_M_store_48 : decode b_M_store 48 = .ok (.iconst 1, 1) := by decide +kernel
theorem d_M_store_49 : decode b_M_store 49 = .ok (.if_icmp .ne 12, 3) := by decide +kernel
theorem d_M_store_52 : decode b_M_store 52 = .ok (.aload_n 0, 1) := by decide +kernel
theorem d_M_store_53 : decode b_M_store 53 = .ok (.getfield 22, 3) := by decide +kernel
theorem d_M_store_56 : decode b_M_store 56 = .ok (.iload_n 1, 1) := by decide +kernel
theorem d_M_store_57 : decode b_M_store 57 = .ok (.iaload, 1) := by decide +kernel
theorem d_M_store_58 : decode b_M_store 58 = .ok (.goto 23, 3) := by decide +kernel
theorem d_M_store_61 : decode b_M_store 61 = .ok (.iload_n 2, 1) := by decide +kernel
theorem d_M_store_62 : decode b_M_store 62 = .ok (.iconst 2, 1) := by decide +kernel
theorem d_M_store_63 : decode b_M_store 63 = .ok (.if_icmp .ne 12, 3) := by decide +kernel
theorem d_M_store_66 : decode b_M_store 66 = .ok (.aload_n 0, 1) := by decide +kernel
theorem d_M_store_67 : decode b_M_store 67 = .ok (.getfield 71, 3) := by decide +kernel
theorem d_M_store_70 : decode b_M_store 70 = .ok (.iload_n 1, 1) := by decide +kernel
theorem d_M_store_71 : decode b_M_store 71 = .ok (.iaload, 1) := by decide +kernel
theorem d_M_store_72 : decode b_M_store 72 = .ok (.goto 9, 3) := by decide +kernel
theorem d_M_store_75 : decode b_M_store 75 = .ok (.aload_n 0, 1) := by decide +kernel
theorem d_M_store_76 : decode b_M_store 76 = .ok (.getfield 74, 3) := by decide +kernel
theorem d_M_store_79 : decode b_M_store 79 = .ok (.iload_n 1, 1) := by decide +kernel
theorem d_M_store_80 : decode b_M_store 80 = .ok (.iaload, 1) := by decide +kernel
theorem d_M_store_81 : decode b_M_store 81 = .ok (.ireturn, 1) := by decide +kernel
end
section
theorem d_O_add_0 : decode b_O_add 0 = .ok (.aload_n 0, 1) := by decide +kernel
theorem d_O_add_1 : decode b_O_add 1 = .ok (.getfield 9, 3) := by decide +kernel
theorem d_O_add_4 : decode b_O_add 4 = .ok (.aload_n 0, 1) := by decide +kernel
theorem d_O_add_5 : decode b_O_add 5 = .ok (.getfield 15, 3) := by decide +kernel
theorem d_O_add_8 : decode b_O_add 8 = .ok (.iload_n 1, 1) := by decide +kernel
theorem d_O_add_9 : decode b_O_add 9 = .ok (.iastore, 1) := by decide +kernel
theorem d_O_add_10 : decode b_O_add 10 = .ok (.aload_n 0, 1) := by decide +kernel
theorem d_O_add_11 : decode b_O_add 11 = .ok (.dup, 1) := by decide +kernel
theorem d_O_add_12 : decode b_O_add 12 = .ok (.getfield 15, 3) := by decide +kernel
theorem d_O_add_15 : decode b_O_add 15 = .ok (.iconst 1, 1) := by decide +kernel
theorem d_O_add_16 : decode b_O_add 16 = .ok (.iadd, 1) := by decide +kernel
theorem d_O_add_17 : decode b_O_add 17 = .ok (.putfield 15, 3) := by decide +kernel
theorem d_O_add_20 : decode b_O_add 20 = .ok (.return_, 1) := by decide +kernel
end
section
theorem d_R_clear_0 : decode b_R_clear 0 = .ok (.aload_n 0, 1) := by decide +kernel
theorem d_R_clear_1 : decode b_R_clear 1 = .ok (.getfield 9, 3) := by decide +kernel
theorem d_R_clear_4 : decode b_R_clear 4 = .ok (.ldc 29, 2) := by decide +kernel
theorem d_R_clear_6 : decode b_R_clear 6 = .ok (.invokestatic 30, 3) := by decide +kernel
theorem d_R_clear_9 : decode b_R_clear 9 = .ok (.aload_n 0, 1) := by decide +kernel
theorem d_R_clear_10 : decode b_R_clear 10 = .ok (.getfield 15, 3) := by decide +kernel
theorem d_R_clear_13 : decode b_R_clear 13 = .ok (.ldc 29, 2) := by decide +kernel
theorem d_R_clear_15 : decode b_R_clear 15 = .ok (.invokestatic 30, 3) := by decide +kernel
theorem d_R_clear_18 : decode b_R_clear 18 = .ok (.iconst 0, 1) := by decide +kernel
theorem d_R_clear_19 : decode b_R_clear 19 = .ok (.istore_n 1, 1) := by decide +kernel
theorem d_R_clear_20 : decode b_R_clear 20 = .ok (.iload_n 1, 1) := by decide +kernel
theorem d_R_clear_21 : decode b_R_clear 21 = .ok (.iconst 4, 1) := by decide +kernel
theorem d_R_clear_22 : decode b_R_clear 22 = .ok (.if_icmp .ge 16, 3) := by decide +kernel
theorem d_R_clear_25 : decode b_R_clear 25 = .ok (.aload_n 0, 1) := by decide +kernel
theorem d_R_clear_26 : decode b_R_clear 26 = .ok (.getfield 18, 3) := by decide +kernel
theorem d_R_clear_29 : decode b_R_clear 29 = .ok (.iload_n 1, 1) := by decide +kernel
theorem d_R_clear_30 : decode b_R_clear 30 = .ok (.iconst 0, 1) := by decide +kernel
theorem d_R_clear_31 : decode b_R_clear 31 = .ok (.bastore, 1) := by decide +kernel
theorem d_R_clear_32 : decode b_R_clear 32 = .ok (.iinc 1 1, 3) := by decide +kernel
theorem d_R_clear_35 : decode b_R_clear 35 = .ok (.goto (-15), 3) := by decide +kernel
theorem d_R_clear_38 : decode b_R_clear 38 = .ok (.return_, 1) := by decide +kernel
theorem d_R_seeStop_0 : decode b_R_seeStop 0 = .ok (.aload_n 0, 1) := by decide +kernel
theorem d_R_seeStop_1 : decode b_R_seeStop 1 = .ok (.getfield 18, 3) := by decide +kernel
theorem d_R_seeStop_4 : decode b_R_seeStop 4 = .ok (.iload_n 1, 1) := by decide +kernel
theorem d_R_seeStop_5 : decode b_R_seeStop 5 = .ok (.baload, 1) := by decide +kernel
theorem d_R_seeStop_6 : decode b_R_seeStop 6 = .ok (.ifCond .eq 30, 3) := by decide +kernel
theorem d_R_seeStop_9 : decode b_R_seeStop 9 = .ok (.aload_n 0, 1) := by decide +kernel
theorem d_R_seeStop_10 : decode b_R_seeStop 10 = .ok (.getfield 9, 3) := by decide +kernel
theorem d_R_seeStop_13 : decode b_R_seeStop 13 = .ok (.iload_n 2, 1) := by decide +kernel
theorem d_R_seeStop_14 : decode b_R_seeStop 14 = .ok (.iaload, 1) := by decide +kernel
theorem d_R_seeStop_15 : decode b_R_seeStop 15 = .ok (.ldc 29, 2) := by decide +kernel
theorem d_R_seeStop_17 : decode b_R_seeStop 17 = .ok (.if_icmp .ne 19, 3) := by decide +kernel
theorem d_R_seeStop_20 : decode b_R_seeStop 20 = .ok (.aload_n 0, 1) := by decide +kernel
theorem d_R_seeStop_21 : decode b_R_seeStop 21 = .ok (.getfield 9, 3) := by decide +kernel
theorem d_R_seeStop_24 : decode b_R_seeStop 24 = .ok (.iload_n 2, 1) := by decide +kernel
theorem d_R_seeStop_25 : decode b_R_seeStop 25 = .ok (.iload_n 3, 1) := by decide +kernel
theorem d_R_seeStop_26 : decode b_R_seeStop 26 = .ok (.iastore, 1) := by decide +kernel
theorem d_R_seeStop_27 : decode b_R_seeStop 27 = .ok (.aload_n 0, 1) := by decide +kernel
theorem d_R_seeStop_28 : decode b_R_seeStop 28 = .ok (.getfield 15, 3) := by decide +kernel
theorem d_R_seeStop_31 : decode b_R_seeStop 31 = .ok (.iload_n 2, 1) := by decide +kernel
theorem d_R_seeStop_32 : decode b_R_seeStop 32 = .ok (.iload_n 3, 1) := by decide +kernel
theorem d_R_seeStop_33 : decode b_R_seeStop 33 = .ok (.iconst 1, 1) := by decide +kernel
theorem d_R_seeStop_34 : decode b_R_seeStop 34 = .ok (.iadd, 1) := by decide +kernel
theorem d_R_seeStop_35 : decode b_R_seeStop 35 = .ok (.iastore, 1) := by decide +kernel
theorem d_R_seeStop_36 : decode b_R_seeStop 36 = .ok (.aload_n 0, 1) := by decide +kernel
theorem d_R_seeStop_37 : decode b_R_seeStop 37 = .ok (.getfield 15, 3) := by decide +kernel
theorem d_R_seeStop_40 : decode b_R_seeStop 40 = .ok (.iload_n 2, 1) := by decide +kernel
theorem d_R_seeStop_41 : decode b_R_seeStop 41 = .ok (.iaload, 1) := by decide +kernel
theorem d_R_seeStop_42 : decode b_R_seeStop 42 = .ok (.iload_n 3, 1) := by decide +kernel
theorem d_R_seeStop_43 : decode b_R_seeStop 43 = .ok (.if_icmp .gt 10, 3) := by decide +kernel
theorem d_R_seeStop_46 : decode b_R_seeStop 46 = .ok (.aload_n 0, 1) := by decide +kernel
theorem d_R_seeStop_47 : decode b_R_seeStop 47 = .ok (.getfield 18, 3) := by decide +kernel
theorem d_R_seeStop_50 : decode b_R_seeStop 50 = .ok (.iload_n 1, 1) := by decide +kernel
theorem d_R_seeStop_51 : decode b_R_seeStop 51 = .ok (.iconst 1, 1) := by decide +kernel
theorem d_R_seeStop_52 : decode b_R_seeStop 52 = .ok (.bastore, 1) := by decide +kernel
theorem d_R_seeStop_53 : decode b_R_seeStop 53 = .ok (.return_, 1) := by decide +kernel
theorem d_R_goBy_0 : decode b_R_goBy 0 = .ok (.iload_n 2, 1) := by decide +kernel
theorem d_R_goBy_1 : decode b_R_goBy 1 = .ok (.iload_n 2, 1) := by decide +kernel
theorem d_R_goBy_2 : decode b_R_goBy 2 = .ok (.sipush 10080, 3) := by decide +kernel
theorem d_R_goBy_5 : decode b_R_goBy 5 = .ok (.invokestatic 36, 3) := by decide +kernel
theorem d_R_goBy_8 : decode b_R_goBy 8 = .ok (.isub, 1) := by decide +kernel
theorem d_R_goBy_9 : decode b_R_goBy 9 = .ok (.istore 4, 2) := by decide +kernel
theorem d_R_goBy_11 : decode b_R_goBy 11 = .ok (.iconst 0, 1) := by decide +kernel
theorem d_R_goBy_12 : decode b_R_goBy 12 = .ok (.istore 5, 2) := by decide +kernel
theorem d_R_goBy_14 : decode b_R_goBy 14 = .ok (.iload 5, 2) := by decide +kernel
theorem d_R_goBy_16 : decode b_R_goBy 16 = .ok (.iconst 3, 1) := by decide +kernel
theorem d_R_goBy_17 : decode b_R_goBy 17 = .ok (.if_icmp .ge 80, 3) := by decide +kernel
theorem d_R_goBy_20 : decode b_R_goBy 20 = .ok (.iconst 0, 1) := by decide +kernel
theorem d_R_goBy_21 : decode b_R_goBy 21 = .ok (.istore 6, 2) := by decide +kernel
theorem d_R_goBy_23 : decode b_R_goBy 23 = .ok (.iload 6, 2) := by decide +kernel
theorem d_R_goBy_25 : decode b_R_goBy 25 = .ok (.aload_n 1, 1) := by decide +kernel
theorem d_R_goBy_26 : decode b_R_goBy 26 = .ok (.getfield 42, 3) := by decide +kernel
theorem d_R_goBy_29 : decode b_R_goBy 29 = .ok (.if_icmp .ge 56, 3) := by decide +kernel
theorem d_R_goBy_32 : decode b_R_goBy 32 = .ok (.iload 4, 2) := by decide +kernel
theorem d_R_goBy_34 : decode b_R_goBy 34 = .ok (.aload_n 1, 1) := by decide +kernel
theorem d_R_goBy_35 : decode b_R_goBy 35 = .ok (.getfield 48, 3) := by decide +kernel
theorem d_R_goBy_38 : decode b_R_goBy 38 = .ok (.iload 6, 2) := by decide +kernel
theorem d_R_goBy_40 : decode b_R_goBy 40 = .ok (.iaload, 1) := by decide +kernel
theorem d_R_goBy_41 : decode b_R_goBy 41 = .ok (.iadd, 1) := by decide +kernel
theorem d_R_goBy_42 : decode b_R_goBy 42 = .ok (.istore 7, 2) := by decide +kernel
theorem d_R_goBy_44 : decode b_R_goBy 44 = .ok (.iload 7, 2) := by decide +kernel
theorem d_R_goBy_46 : decode b_R_goBy 46 = .ok (.iload_n 2, 1) := by decide +kernel
theorem d_R_goBy_47 : decode b_R_goBy 47 = .ok (.if_icmp .lt 32, 3) := by decide +kernel
theorem d_R_goBy_50 : decode b_R_goBy 50 = .ok (.iload 7, 2) := by decide +kernel
theorem d_R_goBy_52 : decode b_R_goBy 52 = .ok (.iload_n 3, 1) := by decide +kernel
theorem d_R_goBy_53 : decode b_R_goBy 53 = .ok (.if_icmp .gt 26, 3) := by decide +kernel
theorem d_R_goBy_56 : decode b_R_goBy 56 = .ok (.aload_n 0, 1) := by decide +kernel
theorem d_R_goBy_57 : decode b_R_goBy 57 = .ok (.aload_n 1, 1) := by decide +kernel
theorem d_R_goBy_58 : decode b_R_goBy 58 = .ok (.getfield 51, 3) := by decide +kernel
theorem d_R_goBy_61 : decode b_R_goBy 61 = .ok (.iload 6, 2) := by decide +kernel
theorem d_R_goBy_63 : decode b_R_goBy 63 = .ok (.iaload, 1) := by decide +kernel
theorem d_R_goBy_64 : decode b_R_goBy 64 = .ok (.bipush 8, 2) := by decide +kernel
theorem d_R_goBy_66 : decode b_R_goBy 66 = .ok (.isub, 1) := by decide +kernel
theorem d_R_goBy_67 : decode b_R_goBy 67 = .ok (.aload_n 1, 1) := by decide +kernel
theorem d_R_goBy_68 : decode b_R_goBy 68 = .ok (.getfield 54, 3) := by decide +kernel
theorem d_R_goBy_71 : decode b_R_goBy 71 = .ok (.iload 6, 2) := by decide +kernel
theorem d_R_goBy_73 : decode b_R_goBy 73 = .ok (.iaload, 1) := by decide +kernel
theorem d_R_goBy_74 : decode b_R_goBy 74 = .ok (.iload 7, 2) := by decide +kernel
theorem d_R_goBy_76 : decode b_R_goBy 76 = .ok (.invokevirtual 57, 3) := by decide +kernel
theorem d_R_goBy_79 : decode b_R_goBy 79 = .ok (.iinc 6 1, 3) := by decide +kernel
theorem d_R_goBy_82 : decode b_R_goBy 82 = .ok (.goto (-59), 3) := by decide +kernel
theorem d_R_goBy_85 : decode b_R_goBy 85 = .ok (.iinc 4 10080, 6) := by decide +kernel
theorem d_R_goBy_91 : decode b_R_goBy 91 = .ok (.iinc 5 1, 3) := by decide +kernel
theorem d_R_goBy_94 : decode b_R_goBy 94 = .ok (.goto (-80), 3) := by decide +kernel
theorem d_R_goBy_97 : decode b_R_goBy 97 = .ok (.return_, 1) := by decide +kernel
theorem d_R_startAtKiosk_0 : decode b_R_startAtKiosk 0 = .ok (.aload_n 0, 1) := by decide +kernel
theorem d_R_startAtKiosk_1 : decode b_R_startAtKiosk 1 = .ok (.invokevirtual 22, 3) := by decide +kernel
theorem d_R_startAtKiosk_4 : decode b_R_startAtKiosk 4 = .ok (.aload_n 0, 1) := by decide +kernel
theorem d_R_startAtKiosk_5 : decode b_R_startAtKiosk 5 = .ok (.getfield 9, 3) := by decide +kernel
theorem d_R_startAtKiosk_8 : decode b_R_startAtKiosk 8 = .ok (.iload_n 2, 1) := by decide +kernel
theorem d_R_startAtKiosk_9 : decode b_R_startAtKiosk 9 = .ok (.iload_n 3, 1) := by decide +kernel
theorem d_R_startAtKiosk_10 : decode b_R_startAtKiosk 10 = .ok (.iastore, 1) := by decide +kernel
theorem d_R_startAtKiosk_11 : decode b_R_startAtKiosk 11 = .ok (.aload_n 0, 1) := by decide +kernel
theorem d_R_startAtKiosk_12 : decode b_R_startAtKiosk 12 = .ok (.getfield 15, 3) := by decide +kernel
theorem d_R_startAtKiosk_15 : decode b_R_startAtKiosk 15 = .ok (.iload_n 2, 1) := by decide +kernel
theorem d_R_startAtKiosk_16 : decode b_R_startAtKiosk 16 = .ok (.iload_n 3, 1) := by decide +kernel
theorem d_R_startAtKiosk_17 : decode b_R_startAtKiosk 17 = .ok (.iastore, 1) := by decide +kernel
theorem d_R_startAtKiosk_18 : decode b_R_startAtKiosk 18 = .ok (.aload_n 0, 1) := by decide +kernel
theorem d_R_startAtKiosk_19 : decode b_R_startAtKiosk 19 = .ok (.aload_n 1, 1) := by decide +kernel
theorem d_R_startAtKiosk_20 : decode b_R_startAtKiosk 20 = .ok (.iload_n 3, 1) := by decide +kernel
theorem d_R_startAtKiosk_21 : decode b_R_startAtKiosk 21 = .ok (.iload_n 3, 1) := by decide +kernel
theorem d_R_startAtKiosk_22 : decode b_R_startAtKiosk 22 = .ok (.sipush 20160, 3) := by decide +kernel
theorem d_R_startAtKiosk_25 : decode b_R_startAtKiosk 25 = .ok (.iadd, 1) := by decide +kernel
theorem d_R_startAtKiosk_26 : decode b_R_startAtKiosk 26 = .ok (.invokevirtual 25, 3) := by decide +kernel
theorem d_R_startAtKiosk_29 : decode b_R_startAtKiosk 29 = .ok (.return_, 1) := by decide +kernel
theorem d_R_startOnBus_0 : decode b_R_startOnBus 0 = .ok (.aload_n 0, 1) := by decide +kernel
theorem d_R_startOnBus_1 : decode b_R_startOnBus 1 = .ok (.invokevirtual 22, 3) := by decide +kernel
theorem d_R_startOnBus_4 : decode b_R_startOnBus 4 = .ok (.aload_n 0, 1) := by decide +kernel
theorem d_R_startOnBus_5 : decode b_R_startOnBus 5 = .ok (.getfield 18, 3) := by decide +kernel
theorem d_R_startOnBus_8 : decode b_R_startOnBus 8 = .ok (.iload_n 2, 1) := by decide +kernel
theorem d_R_startOnBus_9 : decode b_R_startOnBus 9 = .ok (.bipush 8, 2) := by decide +kernel
theorem d_R_startOnBus_11 : decode b_R_startOnBus 11 = .ok (.isub, 1) := by decide +kernel
theorem d_R_startOnBus_12 : decode b_R_startOnBus 12 = .ok (.iconst 1, 1) := by decide +kernel
theorem d_R_startOnBus_13 : decode b_R_startOnBus 13 = .ok (.bastore, 1) := by decide +kernel
theorem d_R_startOnBus_14 : decode b_R_startOnBus 14 = .ok (.aload_n 0, 1) := by decide +kernel
theorem d_R_startOnBus_15 : decode b_R_startOnBus 15 = .ok (.aload_n 1, 1) := by decide +kernel
theorem d_R_startOnBus_16 : decode b_R_startOnBus 16 = .ok (.iload_n 3, 1) := by decide +kernel
theorem d_R_startOnBus_17 : decode b_R_startOnBus 17 = .ok (.iconst 1, 1) := by decide +kernel
theorem d_R_startOnBus_18 : decode b_R_startOnBus 18 = .ok (.iadd, 1) := by decide +kernel
theorem d_R_startOnBus_19 : decode b_R_startOnBus 19 = .ok (.iload_n 3, 1) := by decide +kernel
theorem d_R_startOnBus_20 : decode b_R_startOnBus 20 = .ok (.sipush 20160, 3) := by decide +kernel
theorem d_R_startOnBus_23 : decode b_R_startOnBus 23 = .ok (.iadd, 1) := by decide +kernel
theorem d_R_startOnBus_24 : decode b_R_startOnBus 24 = .ok (.invokevirtual 25, 3) := by decide +kernel
theorem d_R_startOnBus_27 : decode b_R_startOnBus 27 = .ok (.return_, 1) := by decide +kernel
end
section
theorem d_S_room_0 : decode b_S_room 0 = .ok (.aload_n 0, 1) := by decide +kernel
theorem d_S_room_1 : decode b_S_room 1 = .ok (.getfield 9, 3) := by decide +kernel
theorem d_S_room_4 : decode b_S_room 4 = .ok (.aload_n 0, 1) := by decide +kernel
theorem d_S_room_5 : decode b_S_room 5 = .ok (.getfield 35, 3) := by decide +kernel
theorem d_S_room_8 : decode b_S_room 8 = .ok (.isub, 1) := by decide +kernel
theorem d_S_room_9 : decode b_S_room 9 = .ok (.ireturn, 1) := by decide +kernel
theorem d_S_has_0 : decode b_S_has 0 = .ok (.aload_n 0, 1) := by decide +kernel
theorem d_S_has_1 : decode b_S_has 1 = .ok (.getfield 15, 3) := by decide +kernel
theorem d_S_has_4 : decode b_S_has 4 = .ok (.iload_n 1, 1) := by decide +kernel
theorem d_S_has_5 : decode b_S_has 5 = .ok (.iaload, 1) := by decide +kernel
theorem d_S_has_6 : decode b_S_has 6 = .ok (.iconst (-1), 1) := by decide +kernel
theorem d_S_has_7 : decode b_S_has 7 = .ok (.if_icmp .eq 7, 3) := by decide +kernel
theorem d_S_has_10 : decode b_S_has 10 = .ok (.iconst 1, 1) := by decide +kernel
theorem d_S_has_11 : decode b_S_has 11 = .ok (.goto 4, 3) := by decide +kernel
theorem d_S_has_14 : decode b_S_has 14 = .ok (.iconst 0, 1) := by decide +kernel
theorem d_S_has_15 : decode b_S_has 15 = .ok (.ireturn, 1) := by decide +kernel
theorem d_S_countOf_0 : decode b_S_countOf 0 = .ok (.iconst 0, 1) := by decide +kernel
theorem d_S_countOf_1 : decode b_S_countOf 1 = .ok (.istore_n 2, 1) := by decide +kernel
theorem d_S_countOf_2 : decode b_S_countOf 2 = .ok (.iload_n 1, 1) := by decide +kernel
theorem d_S_countOf_3 : decode b_S_countOf 3 = .ok (.iconst 4, 1) := by decide +kernel
theorem d_S_countOf_4 : decode b_S_countOf 4 = .ok (.imul, 1) := by decide +kernel
theorem d_S_countOf_5 : decode b_S_countOf 5 = .ok (.istore_n 3, 1) := by decide +kernel
theorem d_S_countOf_6 : decode b_S_countOf 6 = .ok (.iload_n 3, 1) := by decide +kernel
theorem d_S_countOf_7 : decode b_S_countOf 7 = .ok (.iload_n 1, 1) := by decide +kernel
theorem d_S_countOf_8 : decode b_S_countOf 8 = .ok (.iconst 1, 1) := by decide +kernel
theorem d_S_countOf_9 : decode b_S_countOf 9 = .ok (.iadd, 1) := by decide +kernel
theorem d_S_countOf_10 : decode b_S_countOf 10 = .ok (.iconst 4, 1) := by decide +kernel
theorem d_S_countOf_11 : decode b_S_countOf 11 = .ok (.imul, 1) := by decide +kernel
theorem d_S_countOf_12 : decode b_S_countOf 12 = .ok (.if_icmp .ge 20, 3) := by decide +kernel
theorem d_S_countOf_15 : decode b_S_countOf 15 = .ok (.aload_n 0, 1) := by decide +kernel
theorem d_S_countOf_16 : decode b_S_countOf 16 = .ok (.iload_n 3, 1) := by decide +kernel
theorem d_S_countOf_17 : decode b_S_countOf 17 = .ok (.invokevirtual 38, 3) := by decide +kernel
theorem d_S_countOf_20 : decode b_S_countOf 20 = .ok (.ifCond .eq 6, 3) := by decide +kernel
theorem d_S_countOf_23 : decode b_S_countOf 23 = .ok (.iinc 2 1, 3) := by decide +kernel
theorem d_S_countOf_26 : decode b_S_countOf 26 = .ok (.iinc 3 1, 3) := by decide +kernel
theorem d_S_countOf_29 : decode b_S_countOf 29 = .ok (.goto (-23), 3) := by decide +kernel
theorem d_S_countOf_32 : decode b_S_countOf 32 = .ok (.iload_n 2, 1) := by decide +kernel
theorem d_S_countOf_33 : decode b_S_countOf 33 = .ok (.ireturn, 1) := by decide +kernel
theorem d_S_take_0 : decode b_S_take 0 = .ok (.aload_n 0, 1) := by decide +kernel
theorem d_S_take_1 : decode b_S_take 1 = .ok (.getfield 15, 3) := by decide +kernel
theorem d_S_take_4 : decode b_S_take 4 = .ok (.iload_n 1, 1) := by decide +kernel
theorem d_S_take_5 : decode b_S_take 5 = .ok (.iload 4, 2) := by decide +kernel
theorem d_S_take_7 : decode b_S_take 7 = .ok (.iastore, 1) := by decide +kernel
theorem d_S_take_8 : decode b_S_take 8 = .ok (.aload_n 0, 1) := by decide +kernel
theorem d_S_take_9 : decode b_S_take 9 = .ok (.getfield 25, 3) := by decide +kernel
theorem d_S_take_12 : decode b_S_take 12 = .ok (.iload_n 1, 1) := by decide +kernel
theorem d_S_take_13 : decode b_S_take 13 = .ok (.iload 4, 2) := by decide +kernel
theorem d_S_take_15 : decode b_S_take 15 = .ok (.iastore, 1) := by decide +kernel
theorem d_S_take_16 : decode b_S_take 16 = .ok (.aload_n 0, 1) := by decide +kernel
theorem d_S_take_17 : decode b_S_take 17 = .ok (.getfield 28, 3) := by decide +kernel
theorem d_S_take_20 : decode b_S_take 20 = .ok (.iload_n 1, 1) := by decide +kernel
theorem d_S_take_21 : decode b_S_take 21 = .ok (.lload_n 2, 1) := by decide +kernel
theorem d_S_take_22 : decode b_S_take 22 = .ok (.lastore, 1) := by decide +kernel
theorem d_S_take_23 : decode b_S_take 23 = .ok (.aload_n 0, 1) := by decide +kernel
theorem d_S_take_24 : decode b_S_take 24 = .ok (.dup, 1) := by decide +kernel
theorem d_S_take_25 : decode b_S_take 25 = .ok (.getfield 35, 3) := by decide +kernel
theorem d_S_take_28 : decode b_S_take 28 = .ok (.iconst 1, 1) := by decide +kernel
theorem d_S_take_29 : decode b_S_take 29 = .ok (.iadd, 1) := by decide +kernel
theorem d_S_take_30 : decode b_S_take 30 = .ok (.putfield 35, 3) := by decide +kernel
theorem d_S_take_33 : decode b_S_take 33 = .ok (.return_, 1) := by decide +kernel
theorem d_S_free_0 : decode b_S_free 0 = .ok (.aload_n 0, 1) := by decide +kernel
theorem d_S_free_1 : decode b_S_free 1 = .ok (.iload_n 1, 1) := by decide +kernel
theorem d_S_free_2 : decode b_S_free 2 = .ok (.invokevirtual 38, 3) := by decide +kernel
theorem d_S_free_5 : decode b_S_free 5 = .ok (.ifCond .eq 20, 3) := by decide +kernel
theorem d_S_free_8 : decode b_S_free 8 = .ok (.aload_n 0, 1) := by decide +kernel
theorem d_S_free_9 : decode b_S_free 9 = .ok (.getfield 15, 3) := by decide +kernel
theorem d_S_free_12 : decode b_S_free 12 = .ok (.iload_n 1, 1) := by decide +kernel
theorem d_S_free_13 : decode b_S_free 13 = .ok (.iconst (-1), 1) := by decide +kernel
theorem d_S_free_14 : decode b_S_free 14 = .ok (.iastore, 1) := by decide +kernel
theorem d_S_free_15 : decode b_S_free 15 = .ok (.aload_n 0, 1) := by decide +kernel
theorem d_S_free_16 : decode b_S_free 16 = .ok (.dup, 1) := by decide +kernel
theorem d_S_free_17 : decode b_S_free 17 = .ok (.getfield 35, 3) := by decide +kernel
theorem d_S_free_20 : decode b_S_free 20 = .ok (.iconst 1, 1) := by decide +kernel
theorem d_S_free_21 : decode b_S_free 21 = .ok (.isub, 1) := by decide +kernel
theorem d_S_free_22 : decode b_S_free 22 = .ok (.putfield 35, 3) := by decide +kernel
theorem d_S_free_25 : decode b_S_free 25 = .ok (.return_, 1) := by decide +kernel
theorem d_S_freeAllOf_0 : decode b_S_freeAllOf 0 = .ok (.iload_n 1, 1) := by decide +kernel
theorem d_S_freeAllOf_1 : decode b_S_freeAllOf 1 = .ok (.iconst 4, 1) := by decide +kernel
theorem d_S_freeAllOf_2 : decode b_S_freeAllOf 2 = .ok (.imul, 1) := by decide +kernel
theorem d_S_freeAllOf_3 : decode b_S_freeAllOf 3 = .ok (.istore_n 2, 1) := by decide +kernel
theorem d_S_freeAllOf_4 : decode b_S_freeAllOf 4 = .ok (.iload_n 2, 1) := by decide +kernel
theorem d_S_freeAllOf_5 : decode b_S_freeAllOf 5 = .ok (.iload_n 1, 1) := by decide +kernel
theorem d_S_freeAllOf_6 : decode b_S_freeAllOf 6 = .ok (.iconst 1, 1) := by decide +kernel
theorem d_S_freeAllOf_7 : decode b_S_freeAllOf 7 = .ok (.iadd, 1) := by decide +kernel
theorem d_S_freeAllOf_8 : decode b_S_freeAllOf 8 = .ok (.iconst 4, 1) := by decide +kernel
theorem d_S_freeAllOf_9 : decode b_S_freeAllOf 9 = .ok (.imul, 1) := by decide +kernel
theorem d_S_freeAllOf_10 : decode b_S_freeAllOf 10 = .ok (.if_icmp .ge 14, 3) := by decide +kernel
theorem d_S_freeAllOf_13 : decode b_S_freeAllOf 13 = .ok (.aload_n 0, 1) := by decide +kernel
theorem d_S_freeAllOf_14 : decode b_S_freeAllOf 14 = .ok (.iload_n 2, 1) := by decide +kernel
theorem d_S_freeAllOf_15 : decode b_S_freeAllOf 15 = .ok (.invokevirtual 42, 3) := by decide +kernel
theorem d_S_freeAllOf_18 : decode b_S_freeAllOf 18 = .ok (.iinc 2 1, 3) := by decide +kernel
theorem d_S_freeAllOf_21 : decode b_S_freeAllOf 21 = .ok (.goto (-17), 3) := by decide +kernel
theorem d_S_freeAllOf_24 : decode b_S_freeAllOf 24 = .ok (.return_, 1) := by decide +kernel
theorem d_S_learnHops_0 : decode b_S_learnHops 0 = .ok (.aload_n 0, 1) := by decide +kernel
theorem d_S_learnHops_1 : decode b_S_learnHops 1 = .ok (.getfield 25, 3) := by decide +kernel
theorem d_S_learnHops_4 : decode b_S_learnHops 4 = .ok (.iload_n 1, 1) := by decide +kernel
theorem d_S_learnHops_5 : decode b_S_learnHops 5 = .ok (.iload_n 2, 1) := by decide +kernel
theorem d_S_learnHops_6 : decode b_S_learnHops 6 = .ok (.iastore, 1) := by decide +kernel
theorem d_S_learnHops_7 : decode b_S_learnHops 7 = .ok (.iload_n 2, 1) := by decide +kernel
theorem d_S_learnHops_8 : decode b_S_learnHops 8 = .ok (.aload_n 0, 1) := by decide +kernel
theorem d_S_learnHops_9 : decode b_S_learnHops 9 = .ok (.getfield 15, 3) := by decide +kernel
theorem d_S_learnHops_12 : decode b_S_learnHops 12 = .ok (.iload_n 1, 1) := by decide +kernel
theorem d_S_learnHops_13 : decode b_S_learnHops 13 = .ok (.iaload, 1) := by decide +kernel
theorem d_S_learnHops_14 : decode b_S_learnHops 14 = .ok (.if_icmp .le 8, 3) := by decide +kernel
theorem d_S_learnHops_17 : decode b_S_learnHops 17 = .ok (.aload_n 0, 1) := by decide +kernel
theorem d_S_learnHops_18 : decode b_S_learnHops 18 = .ok (.iload_n 1, 1) := by decide +kernel
theorem d_S_learnHops_19 : decode b_S_learnHops 19 = .ok (.invokevirtual 42, 3) := by decide +kernel
theorem d_S_learnHops_22 : decode b_S_learnHops 22 = .ok (.return_, 1) := by decide +kernel
theorem d_S_unlearn_0 : decode b_S_unlearn 0 = .ok (.aload_n 0, 1) := by decide +kernel
theorem d_S_unlearn_1 : decode b_S_unlearn 1 = .ok (.getfield 25, 3) := by decide +kernel
theorem d_S_unlearn_4 : decode b_S_unlearn 4 = .ok (.iload_n 1, 1) := by decide +kernel
theorem d_S_unlearn_5 : decode b_S_unlearn 5 = .ok (.dup2, 1) := by decide +kernel
theorem d_S_unlearn_6 : decode b_S_unlearn 6 = .ok (.iaload, 1) := by decide +kernel
theorem d_S_unlearn_7 : decode b_S_unlearn 7 = .ok (.iconst 1, 1) := by decide +kernel
theorem d_S_unlearn_8 : decode b_S_unlearn 8 = .ok (.isub, 1) := by decide +kernel
theorem d_S_unlearn_9 : decode b_S_unlearn 9 = .ok (.iastore, 1) := by decide +kernel
theorem d_S_unlearn_10 : decode b_S_unlearn 10 = .ok (.aload_n 0, 1) := by decide +kernel
theorem d_S_unlearn_11 : decode b_S_unlearn 11 = .ok (.getfield 15, 3) := by decide +kernel
theorem d_S_unlearn_14 : decode b_S_unlearn 14 = .ok (.iload_n 1, 1) := by decide +kernel
theorem d_S_unlearn_15 : decode b_S_unlearn 15 = .ok (.aload_n 0, 1) := by decide +kernel
theorem d_S_unlearn_16 : decode b_S_unlearn 16 = .ok (.getfield 25, 3) := by decide +kernel
theorem d_S_unlearn_19 : decode b_S_unlearn 19 = .ok (.iload_n 1, 1) := by decide +kernel
theorem d_S_unlearn_20 : decode b_S_unlearn 20 = .ok (.iaload, 1) := by decide +kernel
theorem d_S_unlearn_21 : decode b_S_unlearn 21 = .ok (.iastore, 1) := by decide +kernel
theorem d_S_unlearn_22 : decode b_S_unlearn 22 = .ok (.aload_n 0, 1) := by decide +kernel
theorem d_S_unlearn_23 : decode b_S_unlearn 23 = .ok (.dup, 1) := by decide +kernel
theorem d_S_unlearn_24 : decode b_S_unlearn 24 = .ok (.getfield 35, 3) := by decide +kernel
theorem d_S_unlearn_27 : decode b_S_unlearn 27 = .ok (.iconst 1, 1) := by decide +kernel
theorem d_S_unlearn_28 : decode b_S_unlearn 28 = .ok (.iadd, 1) := by decide +kernel
theorem d_S_unlearn_29 : decode b_S_unlearn 29 = .ok (.putfield 35, 3) := by decide +kernel
theorem d_S_unlearn_32 : decode b_S_unlearn 32 = .ok (.return_, 1) := by decide +kernel
theorem d_S_learnOf_0 : decode b_S_learnOf 0 = .ok (.aload_n 0, 1) := by decide +kernel
theorem d_S_learnOf_1 : decode b_S_learnOf 1 = .ok (.getfield 32, 3) := by decide +kernel
theorem d_S_learnOf_4 : decode b_S_learnOf 4 = .ok (.iload_n 1, 1) := by decide +kernel
theorem d_S_learnOf_5 : decode b_S_learnOf 5 = .ok (.iload_n 2, 1) := by decide +kernel
theorem d_S_learnOf_6 : decode b_S_learnOf 6 = .ok (.iastore, 1) := by decide +kernel
theorem d_S_learnOf_7 : decode b_S_learnOf 7 = .ok (.iload_n 2, 1) := by decide +kernel
theorem d_S_learnOf_8 : decode b_S_learnOf 8 = .ok (.ifCond .eq 8, 3) := by decide +kernel
theorem d_S_learnOf_11 : decode b_S_learnOf 11 = .ok (.aload_n 0, 1) := by decide +kernel
theorem d_S_learnOf_12 : decode b_S_learnOf 12 = .ok (.iload_n 1, 1) := by decide +kernel
theorem d_S_learnOf_13 : decode b_S_learnOf 13 = .ok (.invokevirtual 46, 3) := by decide +kernel
theorem d_S_learnOf_16 : decode b_S_learnOf 16 = .ok (.return_, 1) := by decide +kernel
theorem d_S_forgetPieces_0 : decode b_S_forgetPieces 0 = .ok (.iconst 0, 1) := by decide +kernel
theorem d_S_forgetPieces_1 : decode b_S_forgetPieces 1 = .ok (.istore_n 1, 1) := by decide +kernel
theorem d_S_forgetPieces_2 : decode b_S_forgetPieces 2 = .ok (.iload_n 1, 1) := by decide +kernel
theorem d_S_forgetPieces_3 : decode b_S_forgetPieces 3 = .ok (.bipush 64, 2) := by decide +kernel
theorem d_S_forgetPieces_5 : decode b_S_forgetPieces 5 = .ok (.if_icmp .ge 24, 3) := by decide +kernel
theorem d_S_forgetPieces_8 : decode b_S_forgetPieces 8 = .ok (.aload_n 0, 1) := by decide +kernel
theorem d_S_forgetPieces_9 : decode b_S_forgetPieces 9 = .ok (.iload_n 1, 1) := by decide +kernel
theorem d_S_forgetPieces_10 : decode b_S_forgetPieces 10 = .ok (.invokevirtual 38, 3) := by decide +kernel
theorem d_S_forgetPieces_13 : decode b_S_forgetPieces 13 = .ok (.ifCond .ne 10, 3) := by decide +kernel
theorem d_S_forgetPieces_16 : decode b_S_forgetPieces 16 = .ok (.aload_n 0, 1) := by decide +kernel
theorem d_S_forgetPieces_17 : decode b_S_forgetPieces 17 = .ok (.getfield 25, 3) := by decide +kernel
theorem d_S_forgetPieces_20 : decode b_S_forgetPieces 20 = .ok (.iload_n 1, 1) := by decide +kernel
theorem d_S_forgetPieces_21 : decode b_S_forgetPieces 21 = .ok (.iconst 0, 1) := by decide +kernel
theorem d_S_forgetPieces_22 : decode b_S_forgetPieces 22 = .ok (.iastore, 1) := by decide +kernel
theorem d_S_forgetPieces_23 : decode b_S_forgetPieces 23 = .ok (.iinc 1 1, 3) := by decide +kernel
theorem d_S_forgetPieces_26 : decode b_S_forgetPieces 26 = .ok (.goto (-24), 3) := by decide +kernel
theorem d_S_forgetPieces_29 : decode b_S_forgetPieces 29 = .ok (.return_, 1) := by decide +kernel
end
section
theorem d_T_find_0 : decode b_T_find 0 = .ok (.iconst 0, 1) := by decide +kernel
theorem d_T_find_1 : decode b_T_find 1 = .ok (.istore_n 3, 1) := by decide +kernel
theorem d_T_find_2 : decode b_T_find 2 = .ok (.iload_n 3, 1) := by decide +kernel
theorem d_T_find_3 : decode b_T_find 3 = .ok (.aload_n 0, 1) := by decide +kernel
theorem d_T_find_4 : decode b_T_find 4 = .ok (.getfield 21, 3) := by decide +kernel
theorem d_T_find_7 : decode b_T_find 7 = .ok (.if_icmp .ge 31, 3) := by decide +kernel
theorem d_T_find_10 : decode b_T_find 10 = .ok (.aload_n 0, 1) := by decide +kernel
theorem d_T_find_11 : decode b_T_find 11 = .ok (.getfield 9, 3) := by decide +kernel
theorem d_T_find_14 : decode b_T_find 14 = .ok (.iload_n 3, 1) := by decide +kernel
theorem d_T_find_15 : decode b_T_find 15 = .ok (.iaload, 1) := by decide +kernel
theorem d_T_find_16 : decode b_T_find 16 = .ok (.iload_n 1, 1) := by decide +kernel
theorem d_T_find_17 : decode b_T_find 17 = .ok (.if_icmp .ne 15, 3) := by decide +kernel
theorem d_T_find_20 : decode b_T_find 20 = .ok (.aload_n 0, 1) := by decide +kernel
theorem d_T_find_21 : decode b_T_find 21 = .ok (.getfield 18, 3) := by decide +kernel
theorem d_T_find_24 : decode b_T_find 24 = .ok (.iload_n 3, 1) := by decide +kernel
theorem d_T_find_25 : decode b_T_find 25 = .ok (.iaload, 1) := by decide +kernel
theorem d_T_find_26 : decode b_T_find 26 = .ok (.iload_n 2, 1) := by decide +kernel
theorem d_T_find_27 : decode b_T_find 27 = .ok (.if_icmp .ne 5, 3) := by decide +kernel
theorem d_T_find_30 : decode b_T_find 30 = .ok (.iload_n 3, 1) := by decide +kernel
theorem d_T_find_31 : decode b_T_find 31 = .ok (.ireturn, 1) := by decide +kernel
theorem d_T_find_32 : decode b_T_find 32 = .ok (.iinc 3 1, 3) := by decide +kernel
theorem d_T_find_35 : decode b_T_find 35 = .ok (.goto (-33), 3) := by decide +kernel
theorem d_T_find_38 : decode b_T_find 38 = .ok (.iconst (-1), 1) := by decide +kernel
theorem d_T_find_39 : decode b_T_find 39 = .ok (.ireturn, 1) := by decide +kernel
theorem d_T_set_0 : decode b_T_set 0 = .ok (.aload_n 0, 1) := by decide +kernel
theorem d_T_set_1 : decode b_T_set 1 = .ok (.getfield 9, 3) := by decide +kernel
theorem d_T_set_4 : decode b_T_set 4 = .ok (.iload_n 1, 1) := by decide +kernel
theorem d_T_set_5 : decode b_T_set 5 = .ok (.iload_n 2, 1) := by decide +kernel
theorem d_T_set_6 : decode b_T_set 6 = .ok (.iastore, 1) := by decide +kernel
theorem d_T_set_7 : decode b_T_set 7 = .ok (.aload_n 0, 1) := by decide +kernel
theorem d_T_set_8 : decode b_T_set 8 = .ok (.getfield 15, 3) := by decide +kernel
theorem d_T_set_11 : decode b_T_set 11 = .ok (.iload_n 1, 1) := by decide +kernel
theorem d_T_set_12 : decode b_T_set 12 = .ok (.iload_n 3, 1) := by decide +kernel
theorem d_T_set_13 : decode b_T_set 13 = .ok (.iastore, 1) := by decide +kernel
theorem d_T_set_14 : decode b_T_set 14 = .ok (.aload_n 0, 1) := by decide +kernel
theorem d_T_set_15 : decode b_T_set 15 = .ok (.getfield 18, 3) := by decide +kernel
theorem d_T_set_18 : decode b_T_set 18 = .ok (.iload_n 1, 1) := by decide +kernel
theorem d_T_set_19 : decode b_T_set 19 = .ok (.iload 4, 2) := by decide +kernel
theorem d_T_set_21 : decode b_T_set 21 = .ok (.iastore, 1) := by decide +kernel
theorem d_T_set_22 : decode b_T_set 22 = .ok (.return_, 1) := by decide +kernel
theorem d_T_insert_0 : decode b_T_insert 0 = .ok (.aload_n 0, 1) := by decide +kernel
theorem d_T_insert_1 : decode b_T_insert 1 = .ok (.getfield 21, 3) := by decide +kernel
theorem d_T_insert_4 : decode b_T_insert 4 = .ok (.istore 4, 2) := by decide +kernel
theorem d_T_insert_6 : decode b_T_insert 6 = .ok (.iload 4, 2) := by decide +kernel
theorem d_T_insert_8 : decode b_T_insert 8 = .ok (.ifCond .le 55, 3) := by decide +kernel
theorem d_T_insert_11 : decode b_T_insert 11 = .ok (.aload_n 0, 1) := by decide +kernel
theorem d_T_insert_12 : decode b_T_insert 12 = .ok (.getfield 18, 3) := by decide +kernel
theorem d_T_insert_15 : decode b_T_insert 15 = .ok (.iload 4, 2) := by decide +kernel
theorem d_T_insert_17 : decode b_T_insert 17 = .ok (.iconst 1, 1) := by decide +kernel
theorem d_T_insert_18 : decode b_T_insert 18 = .ok (.isub, 1) := by decide +kernel
theorem d_T_insert_19 : decode b_T_insert 19 = .ok (.iaload, 1) := by decide +kernel
theorem d_T_insert_20 : decode b_T_insert 20 = .ok (.iload_n 3, 1) := by decide +kernel
theorem d_T_insert_21 : decode b_T_insert 21 = .ok (.if_icmp .le 42, 3) := by decide +kernel
theorem d_T_insert_24 : decode b_T_insert 24 = .ok (.aload_n 0, 1) := by decide +kernel
theorem d_T_insert_25 : decode b_T_insert 25 = .ok (.iload 4, 2) := by decide +kernel
theorem d_T_insert_27 : decode b_T_insert 27 = .ok (.aload_n 0, 1) := by decide +kernel
theorem d_T_insert_28 : decode b_T_insert 28 = .ok (.getfield 9, 3) := by decide +kernel
theorem d_T_insert_31 : decode b_T_insert 31 = .ok (.iload 4, 2) := by decide +kernel
theorem d_T_insert_33 : decode b_T_insert 33 = .ok (.iconst 1, 1) := by decide +kernel
theorem d_T_insert_34 : decode b_T_insert 34 = .ok (.isub, 1) := by decide +kernel
theorem d_T_insert_35 : decode b_T_insert 35 = .ok (.iaload, 1) := by decide +kernel
theorem d_T_insert_36 : decode b_T_insert 36 = .ok (.aload_n 0, 1) := by decide +kernel
theorem d_T_insert_37 : decode b_T_insert 37 = .ok (.getfield 15, 3) := by decide +kernel
theorem d_T_insert_40 : decode b_T_insert 40 = .ok (.iload 4, 2) := by decide +kernel
theorem d_T_insert_42 : decode b_T_insert 42 = .ok (.iconst 1, 1) := by decide +kernel
theorem d_T_insert_43 : decode b_T_insert 43 = .ok (.isub, 1) := by decide +kernel
theorem d_T_insert_44 : decode b_T_insert 44 = .ok (.iaload, 1) := by decide +kernel
theorem d_T_insert_45 : decode b_T_insert 45 = .ok (.aload_n 0, 1) := by decide +kernel
theorem d_T_insert_46 : decode b_T_insert 46 = .ok (.getfield 18, 3) := by decide +kernel
theorem d_T_insert_49 : decode b_T_insert 49 = .ok (.iload 4, 2) := by decide +kernel
theorem d_T_insert_51 : decode b_T_insert 51 = .ok (.iconst 1, 1) := by decide +kernel
theorem d_T_insert_52 : decode b_T_insert 52 = .ok (.isub, 1) := by decide +kernel
theorem d_T_insert_53 : decode b_T_insert 53 = .ok (.iaload, 1) := by decide +kernel
theorem d_T_insert_54 : decode b_T_insert 54 = .ok (.invokevirtual 25, 3) := by decide +kernel
theorem d_T_insert_57 : decode b_T_insert 57 = .ok (.iinc 4 (-1), 3) := by decide +kernel
theorem d_T_insert_60 : decode b_T_insert 60 = .ok (.goto (-54), 3) := by decide +kernel
theorem d_T_insert_63 : decode b_T_insert 63 = .ok (.aload_n 0, 1) := by decide +kernel
theorem d_T_insert_64 : decode b_T_insert 64 = .ok (.iload 4, 2) := by decide +kernel
theorem d_T_insert_66 : decode b_T_insert 66 = .ok (.iload_n 1, 1) := by decide +kernel
theorem d_T_insert_67 : decode b_T_insert 67 = .ok (.iload_n 2, 1) := by decide +kernel
theorem d_T_insert_68 : decode b_T_insert 68 = .ok (.iload_n 3, 1) := by decide +kernel
theorem d_T_insert_69 : decode b_T_insert 69 = .ok (.invokevirtual 25, 3) := by decide +kernel
theorem d_T_insert_72 : decode b_T_insert 72 = .ok (.aload_n 0, 1) := by decide +kernel
theorem d_T_insert_73 : decode b_T_insert 73 = .ok (.dup, 1) := by decide +kernel
theorem d_T_insert_74 : decode b_T_insert 74 = .ok (.getfield 21, 3) := by decide +kernel
theorem d_T_insert_77 : decode b_T_insert 77 = .ok (.iconst 1, 1) := by decide +kernel
theorem d_T_insert_78 : decode b_T_insert 78 = .ok (.iadd, 1) := by decide +kernel
theorem d_T_insert_79 : decode b_T_insert 79 = .ok (.putfield 21, 3) := by decide +kernel
theorem d_T_insert_82 : decode b_T_insert 82 = .ok (.return_, 1) := by decide +kernel
theorem d_T_takeOut_0 : decode b_T_takeOut 0 = .ok (.aload_n 0, 1) := by decide +kernel
theorem d_T_takeOut_1 : decode b_T_takeOut 1 = .ok (.dup, 1) := by decide +kernel
theorem d_T_takeOut_2 : decode b_T_takeOut 2 = .ok (.getfield 21, 3) := by decide +kernel
theorem d_T_takeOut_5 : decode b_T_takeOut 5 = .ok (.iconst 1, 1) := by decide +kernel
theorem d_T_takeOut_6 : decode b_T_takeOut 6 = .ok (.isub, 1) := by decide +kernel
theorem d_T_takeOut_7 : decode b_T_takeOut 7 = .ok (.putfield 21, 3) := by decide +kernel
theorem d_T_takeOut_10 : decode b_T_takeOut 10 = .ok (.iload_n 1, 1) := by decide +kernel
theorem d_T_takeOut_11 : decode b_T_takeOut 11 = .ok (.istore_n 2, 1) := by decide +kernel
theorem d_T_takeOut_12 : decode b_T_takeOut 12 = .ok (.iload_n 2, 1) := by decide +kernel
theorem d_T_takeOut_13 : decode b_T_takeOut 13 = .ok (.aload_n 0, 1) := by decide +kernel
theorem d_T_takeOut_14 : decode b_T_takeOut 14 = .ok (.getfield 21, 3) := by decide +kernel
theorem d_T_takeOut_17 : decode b_T_takeOut 17 = .ok (.if_icmp .ge 38, 3) := by decide +kernel
theorem d_T_takeOut_20 : decode b_T_takeOut 20 = .ok (.aload_n 0, 1) := by decide +kernel
theorem d_T_takeOut_21 : decode b_T_takeOut 21 = .ok (.iload_n 2, 1) := by decide +kernel
theorem d_T_takeOut_22 : decode b_T_takeOut 22 = .ok (.aload_n 0, 1) := by decide +kernel
theorem d_T_takeOut_23 : decode b_T_takeOut 23 = .ok (.getfield 9, 3) := by decide +kernel
theorem d_T_takeOut_26 : decode b_T_takeOut 26 = .ok (.iload_n 2, 1) := by decide +kernel
theorem d_T_takeOut_27 : decode b_T_takeOut 27 = .ok (.iconst 1, 1) := by decide +kernel
theorem d_T_takeOut_28 : decode b_T_takeOut 28 = .ok (.iadd, 1) := by decide +kernel
theorem d_T_takeOut_29 : decode b_T_takeOut 29 = .ok (.iaload, 1) := by decide +kernel
theorem d_T_takeOut_30 : decode b_T_takeOut 30 = .ok (.aload_n 0, 1) := by decide +kernel
theorem d_T_takeOut_31 : decode b_T_takeOut 31 = .ok (.getfield 15, 3) := by decide +kernel
theorem d_T_takeOut_34 : decode b_T_takeOut 34 = .ok (.iload_n 2, 1) := by decide +kernel
theorem d_T_takeOut_35 : decode b_T_takeOut 35 = .ok (.iconst 1, 1) := by decide +kernel
theorem d_T_takeOut_36 : decode b_T_takeOut 36 = .ok (.iadd, 1) := by decide +kernel
theorem d_T_takeOut_37 : decode b_T_takeOut 37 = .ok (.iaload, 1) := by decide +kernel
theorem d_T_takeOut_38 : decode b_T_takeOut 38 = .ok (.aload_n 0, 1) := by decide +kernel
theorem d_T_takeOut_39 : decode b_T_takeOut 39 = .ok (.getfield 18, 3) := by decide +kernel
theorem d_T_takeOut_42 : decode b_T_takeOut 42 = .ok (.iload_n 2, 1) := by decide +kernel
theorem d_T_takeOut_43 : decode b_T_takeOut 43 = .ok (.iconst 1, 1) := by decide +kernel
theorem d_T_takeOut_44 : decode b_T_takeOut 44 = .ok (.iadd, 1) := by decide +kernel
theorem d_T_takeOut_45 : decode b_T_takeOut 45 = .ok (.iaload, 1) := by decide +kernel
theorem d_T_takeOut_46 : decode b_T_takeOut 46 = .ok (.invokevirtual 25, 3) := by decide +kernel
theorem d_T_takeOut_49 : decode b_T_takeOut 49 = .ok (.iinc 2 1, 3) := by decide +kernel
theorem d_T_takeOut_52 : decode b_T_takeOut 52 = .ok (.goto (-40), 3) := by decide +kernel
theorem d_T_takeOut_55 : decode b_T_takeOut 55 = .ok (.return_, 1) := by decide +kernel
theorem d_T_become_0 : decode b_T_become 0 = .ok (.aload_n 0, 1) := by decide +kernel
theorem d_T_become_1 : decode b_T_become 1 = .ok (.aload_n 1, 1) := by decide +kernel
theorem d_T_become_2 : decode b_T_become 2 = .ok (.getfield 21, 3) := by decide +kernel
theorem d_T_become_5 : decode b_T_become 5 = .ok (.putfield 21, 3) := by decide +kernel
theorem d_T_become_8 : decode b_T_become 8 = .ok (.iconst 0, 1) := by decide +kernel
theorem d_T_become_9 : decode b_T_become 9 = .ok (.istore_n 2, 1) := by decide +kernel
theorem d_T_become_10 : decode b_T_become 10 = .ok (.iload_n 2, 1) := by decide +kernel
theorem d_T_become_11 : decode b_T_become 11 = .ok (.aload_n 0, 1) := by decide +kernel
theorem d_T_become_12 : decode b_T_become 12 = .ok (.getfield 21, 3) := by decide +kernel
theorem d_T_become_15 : decode b_T_become 15 = .ok (.if_icmp .ge 32, 3) := by decide +kernel
theorem d_T_become_18 : decode b_T_become 18 = .ok (.aload_n 0, 1) := by decide +kernel
theorem d_T_become_19 : decode b_T_become 19 = .ok (.iload_n 2, 1) := by decide +kernel
theorem d_T_become_20 : decode b_T_become 20 = .ok (.aload_n 1, 1) := by decide +kernel
theorem d_T_become_21 : decode b_T_become 21 = .ok (.getfield 9, 3) := by decide +kernel
theorem d_T_become_24 : decode b_T_become 24 = .ok (.iload_n 2, 1) := by decide +kernel
theorem d_T_become_25 : decode b_T_become 25 = .ok (.iaload, 1) := by decide +kernel
theorem d_T_become_26 : decode b_T_become 26 = .ok (.aload_n 1, 1) := by decide +kernel
theorem d_T_become_27 : decode b_T_become 27 = .ok (.getfield 15, 3) := by decide +kernel
theorem d_T_become_30 : decode b_T_become 30 = .ok (.iload_n 2, 1) := by decide +kernel
theorem d_T_become_31 : decode b_T_become 31 = .ok (.iaload, 1) := by decide +kernel
theorem d_T_become_32 : decode b_T_become 32 = .ok (.aload_n 1, 1) := by decide +kernel
theorem d_T_become_33 : decode b_T_become 33 = .ok (.getfield 18, 3) := by decide +kernel
theorem d_T_become_36 : decode b_T_become 36 = .ok (.iload_n 2, 1) := by decide +kernel
theorem d_T_become_37 : decode b_T_become 37 = .ok (.iaload, 1) := by decide +kernel
theorem d_T_become_38 : decode b_T_become 38 = .ok (.invokevirtual 25, 3) := by decide +kernel
theorem d_T_become_41 : decode b_T_become 41 = .ok (.iinc 2 1, 3) := by decide +kernel
theorem d_T_become_44 : decode b_T_become 44 = .ok (.goto (-34), 3) := by decide +kernel
theorem d_T_become_47 : decode b_T_become 47 = .ok (.return_, 1) := by decide +kernel
end
section
theorem d_X_isBus_0 : decode b_X_isBus 0 = .ok (.iload_n 0, 1) := by decide +kernel
theorem d_X_isBus_1 : decode b_X_isBus 1 = .ok (.bipush 8, 2) := by decide +kernel
theorem d_X_isBus_3 : decode b_X_isBus 3 = .ok (.if_icmp .lt 13, 3) := by decide +kernel
theorem d_X_isBus_6 : decode b_X_isBus 6 = .ok (.iload_n 0, 1) := by decide +kernel
theorem d_X_isBus_7 : decode b_X_isBus 7 = .ok (.bipush 12, 2) := by decide +kernel
theorem d_X_isBus_9 : decode b_X_isBus 9 = .ok (.if_icmp .ge 7, 3) := by decide +kernel
theorem d_X_isBus_12 : decode b_X_isBus 12 = .ok (.iconst 1, 1) := by decide +kernel
theorem d_X_isBus_13 : decode b_X_isBus 13 = .ok (.goto 4, 3) := by decide +kernel
theorem d_X_isBus_16 : decode b_X_isBus 16 = .ok (.iconst 0, 1) := by decide +kernel
theorem d_X_isBus_17 : decode b_X_isBus 17 = .ok (.ireturn, 1) := by decide +kernel
theorem d_X_demand_0 : decode b_X_demand 0 = .ok (.iload_n 0, 1) := by decide +kernel
theorem d_X_demand_1 : decode b_X_demand 1 = .ok (.ifCond .ne 11, 3) := by decide +kernel
theorem d_X_demand_4 : decode b_X_demand 4 = .ok (.new 347, 3) := by decide +kernel
theorem d_X_demand_7 : decode b_X_demand 7 = .ok (.dup, 1) := by decide +kernel
theorem d_X_demand_8 : decode b_X_demand 8 = .ok (.invokespecial 349, 3) := by decide +kernel
theorem d_X_demand_11 : decode b_X_demand 11 = .ok (.athrow, 1) := by decide +kernel
theorem d_X_demand_12 : decode b_X_demand 12 = .ok (.return_, 1) := by decide +kernel
theorem d_X_isWithin_0 : decode b_X_isWithin 0 = .ok (.iload_n 0, 1) := by decide +kernel
theorem d_X_isWithin_1 : decode b_X_isWithin 1 = .ok (.ifCond .lt 12, 3) := by decide +kernel
theorem d_X_isWithin_4 : decode b_X_isWithin 4 = .ok (.iload_n 0, 1) := by decide +kernel
theorem d_X_isWithin_5 : decode b_X_isWithin 5 = .ok (.iload_n 1, 1) := by decide +kernel
theorem d_X_isWithin_6 : decode b_X_isWithin 6 = .ok (.if_icmp .ge 7, 3) := by decide +kernel
theorem d_X_isWithin_9 : decode b_X_isWithin 9 = .ok (.iconst 1, 1) := by decide +kernel
theorem d_X_isWithin_10 : decode b_X_isWithin 10 = .ok (.goto 4, 3) := by decide +kernel
theorem d_X_isWithin_13 : decode b_X_isWithin 13 = .ok (.iconst 0, 1) := by decide +kernel
theorem d_X_isWithin_14 : decode b_X_isWithin 14 = .ok (.ireturn, 1) := by decide +kernel
theorem d_X_isKiosk_0 : decode b_X_isKiosk 0 = .ok (.iload_n 0, 1) := by decide +kernel
theorem d_X_isKiosk_1 : decode b_X_isKiosk 1 = .ok (.bipush 8, 2) := by decide +kernel
theorem d_X_isKiosk_3 : decode b_X_isKiosk 3 = .ok (.invokestatic 74, 3) := by decide +kernel
theorem d_X_isKiosk_6 : decode b_X_isKiosk 6 = .ok (.ireturn, 1) := by decide +kernel
theorem d_X_stop_0 : decode b_X_stop 0 = .ok (.iload_n 1, 1) := by decide +kernel
theorem d_X_stop_1 : decode b_X_stop 1 = .ok (.invokestatic 67, 3) := by decide +kernel
theorem d_X_stop_4 : decode b_X_stop 4 = .ok (.ifCond .eq 24, 3) := by decide +kernel
theorem d_X_stop_7 : decode b_X_stop 7 = .ok (.iload_n 2, 1) := by decide +kernel
theorem d_X_stop_8 : decode b_X_stop 8 = .ok (.invokestatic 71, 3) := by decide +kernel
theorem d_X_stop_11 : decode b_X_stop 11 = .ok (.ifCond .eq 17, 3) := by decide +kernel
theorem d_X_stop_14 : decode b_X_stop 14 = .ok (.iload_n 3, 1) := by decide +kernel
theorem d_X_stop_15 : decode b_X_stop 15 = .ok (.sipush 10080, 3) := by decide +kernel
theorem d_X_stop_18 : decode b_X_stop 18 = .ok (.invokestatic 74, 3) := by decide +kernel
theorem d_X_stop_21 : decode b_X_stop 21 = .ok (.ifCond .eq 7, 3) := by decide +kernel
theorem d_X_stop_24 : decode b_X_stop 24 = .ok (.iconst 1, 1) := by decide +kernel
theorem d_X_stop_25 : decode b_X_stop 25 = .ok (.goto 4, 3) := by decide +kernel
theorem d_X_stop_28 : decode b_X_stop 28 = .ok (.iconst 0, 1) := by decide +kernel
theorem d_X_stop_29 : decode b_X_stop 29 = .ok (.invokestatic 78, 3) := by decide +kernel
theorem d_X_stop_32 : decode b_X_stop 32 = .ok (.aload_n 0, 1) := by decide +kernel
theorem d_X_stop_33 : decode b_X_stop 33 = .ok (.getfield 12, 3) := by decide +kernel
theorem d_X_stop_36 : decode b_X_stop 36 = .ok (.iload_n 1, 1) := by decide +kernel
theorem d_X_stop_37 : decode b_X_stop 37 = .ok (.iload_n 3, 1) := by decide +kernel
theorem d_X_stop_38 : decode b_X_stop 38 = .ok (.invokevirtual 82, 3) := by decide +kernel
theorem d_X_stop_41 : decode b_X_stop 41 = .ok (.iconst (-1), 1) := by decide +kernel
theorem d_X_stop_42 : decode b_X_stop 42 = .ok (.if_icmp .ne 15, 3) := by decide +kernel
theorem d_X_stop_45 : decode b_X_stop 45 = .ok (.aload_n 0, 1) := by decide +kernel
theorem d_X_stop_46 : decode b_X_stop 46 = .ok (.getfield 12, 3) := by decide +kernel
theorem d_X_stop_49 : decode b_X_stop 49 = .ok (.getfield 86, 3) := by decide +kernel
theorem d_X_stop_52 : decode b_X_stop 52 = .ok (.bipush 24, 2) := by decide +kernel
theorem d_X_stop_54 : decode b_X_stop 54 = .ok (.if_icmp .ne 11, 3) := by decide +kernel
theorem d_X_stop_57 : decode b_X_stop 57 = .ok (.new 90, 3) := by decide +kernel
theorem d_X_stop_60 : decode b_X_stop 60 = .ok (.dup, 1) := by decide +kernel
theorem d_X_stop_61 : decode b_X_stop 61 = .ok (.invokespecial 92, 3) := by decide +kernel
theorem d_X_stop_64 : decode b_X_stop 64 = .ok (.athrow, 1) := by decide +kernel
theorem d_X_stop_65 : decode b_X_stop 65 = .ok (.aload_n 0, 1) := by decide +kernel
theorem d_X_stop_66 : decode b_X_stop 66 = .ok (.getfield 12, 3) := by decide +kernel
theorem d_X_stop_69 : decode b_X_stop 69 = .ok (.iload_n 1, 1) := by decide +kernel
theorem d_X_stop_70 : decode b_X_stop 70 = .ok (.iload_n 2, 1) := by decide +kernel
theorem d_X_stop_71 : decode b_X_stop 71 = .ok (.iload_n 3, 1) := by decide +kernel
theorem d_X_stop_72 : decode b_X_stop 72 = .ok (.invokevirtual 93, 3) := by decide +kernel
theorem d_X_stop_75 : decode b_X_stop 75 = .ok (.aload_n 0, 1) := by decide +kernel
theorem d_X_stop_76 : decode b_X_stop 76 = .ok (.getfield 12, 3) := by decide +kernel
theorem d_X_stop_79 : decode b_X_stop 79 = .ok (.getfield 86, 3) := by decide +kernel
theorem d_X_stop_82 : decode b_X_stop 82 = .ok (.ireturn, 1) := by decide +kernel
theorem d_X_cancel_0 : decode b_X_cancel 0 = .ok (.aload_n 0, 1) := by decide +kernel
theorem d_X_cancel_1 : decode b_X_cancel 1 = .ok (.getfield 12, 3) := by decide +kernel
theorem d_X_cancel_4 : decode b_X_cancel 4 = .ok (.iload_n 1, 1) := by decide +kernel
theorem d_X_cancel_5 : decode b_X_cancel 5 = .ok (.iload_n 2, 1) := by decide +kernel
theorem d_X_cancel_6 : decode b_X_cancel 6 = .ok (.invokevirtual 82, 3) := by decide +kernel
theorem d_X_cancel_9 : decode b_X_cancel 9 = .ok (.istore_n 3, 1) := by decide +kernel
theorem d_X_cancel_10 : decode b_X_cancel 10 = .ok (.iload_n 3, 1) := by decide +kernel
theorem d_X_cancel_11 : decode b_X_cancel 11 = .ok (.iconst (-1), 1) := by decide +kernel
theorem d_X_cancel_12 : decode b_X_cancel 12 = .ok (.if_icmp .ne 5, 3) := by decide +kernel
theorem d_X_cancel_15 : decode b_X_cancel 15 = .ok (.iconst 0, 1) := by decide +kernel
theorem d_X_cancel_16 : decode b_X_cancel 16 = .ok (.ireturn, 1) := by decide +kernel
theorem d_X_cancel_17 : decode b_X_cancel 17 = .ok (.aload_n 0, 1) := by decide +kernel
theorem d_X_cancel_18 : decode b_X_cancel 18 = .ok (.getfield 12, 3) := by decide +kernel
theorem d_X_cancel_21 : decode b_X_cancel 21 = .ok (.iload_n 3, 1) := by decide +kernel
theorem d_X_cancel_22 : decode b_X_cancel 22 = .ok (.invokevirtual 97, 3) := by decide +kernel
theorem d_X_cancel_25 : decode b_X_cancel 25 = .ok (.iconst 1, 1) := by decide +kernel
theorem d_X_cancel_26 : decode b_X_cancel 26 = .ok (.ireturn, 1) := by decide +kernel
theorem d_X_publish_0 : decode b_X_publish 0 = .ok (.aload_n 0, 1) := by decide +kernel
theorem d_X_publish_1 : decode b_X_publish 1 = .ok (.getfield 100, 3) := by decide +kernel
theorem d_X_publish_4 : decode b_X_publish 4 = .ok (.bipush 6, 2) := by decide +kernel
theorem d_X_publish_6 : decode b_X_publish 6 = .ok (.if_icmp .ne 11, 3) := by decide +kernel
theorem d_X_publish_9 : decode b_X_publish 9 = .ok (.new 90, 3) := by decide +kernel
theorem d_X_publish_12 : decode b_X_publish 12 = .ok (.dup, 1) := by decide +kernel
theorem d_X_publish_13 : decode b_X_publish 13 = .ok (.invokespecial 92, 3) := by decide +kernel
theorem d_X_publish_16 : decode b_X_publish 16 = .ok (.athrow, 1) := by decide +kernel
theorem d_X_publish_17 : decode b_X_publish 17 = .ok (.aload_n 0, 1) := by decide +kernel
theorem d_X_publish_18 : decode b_X_publish 18 = .ok (.dup, 1) := by decide +kernel
theorem d_X_publish_19 : decode b_X_publish 19 = .ok (.getfield 100, 3) := by decide +kernel
theorem d_X_publish_22 : decode b_X_publish 22 = .ok (.iconst 1, 1) := by decide +kernel
theorem d_X_publish_23 : decode b_X_publish 23 = .ok (.iadd, 1) := by decide +kernel
theorem d_X_publish_24 : decode b_X_publish 24 = .ok (.putfield 100, 3) := by decide +kernel
theorem d_X_publish_27 : decode b_X_publish 27 = .ok (.aload_n 0, 1) := by decide +kernel
theorem d_X_publish_28 : decode b_X_publish 28 = .ok (.getfield 16, 3) := by decide +kernel
theorem d_X_publish_31 : decode b_X_publish 31 = .ok (.aload_n 0, 1) := by decide +kernel
theorem d_X_publish_32 : decode b_X_publish 32 = .ok (.getfield 100, 3) := by decide +kernel
theorem d_X_publish_35 : decode b_X_publish 35 = .ok (.aaload, 1) := by decide +kernel
theorem d_X_publish_36 : decode b_X_publish 36 = .ok (.aload_n 0, 1) := by decide +kernel
theorem d_X_publish_37 : decode b_X_publish 37 = .ok (.getfield 12, 3) := by decide +kernel
theorem d_X_publish_40 : decode b_X_publish 40 = .ok (.invokevirtual 103, 3) := by decide +kernel
theorem d_X_publish_43 : decode b_X_publish 43 = .ok (.aload_n 0, 1) := by decide +kernel
theorem d_X_publish_44 : decode b_X_publish 44 = .ok (.getfield 22, 3) := by decide +kernel
theorem d_X_publish_47 : decode b_X_publish 47 = .ok (.iconst 0, 1) := by decide +kernel
theorem d_X_publish_48 : decode b_X_publish 48 = .ok (.aaload, 1) := by decide +kernel
theorem d_X_publish_49 : decode b_X_publish 49 = .ok (.aload_n 0, 1) := by decide +kernel
theorem d_X_publish_50 : decode b_X_publish 50 = .ok (.getfield 100, 3) := by decide +kernel
theorem d_X_publish_53 : decode b_X_publish 53 = .ok (.putfield 107, 3) := by decide +kernel
theorem d_X_publish_56 : decode b_X_publish 56 = .ok (.aload_n 0, 1) := by decide +kernel
theorem d_X_publish_57 : decode b_X_publish 57 = .ok (.getfield 100, 3) := by decide +kernel
theorem d_X_publish_60 : decode b_X_publish 60 = .ok (.ireturn, 1) := by decide +kernel
theorem d_X_arrival_0 : decode b_X_arrival 0 = .ok (.aload_n 0, 1) := by decide +kernel
theorem d_X_arrival_1 : decode b_X_arrival 1 = .ok (.getfield 50, 3) := by decide +kernel
theorem d_X_arrival_4 : decode b_X_arrival 4 = .ok (.aload_n 0, 1) := by decide +kernel
theorem d_X_arrival_5 : decode b_X_arrival 5 = .ok (.getfield 16, 3) := by decide +kernel
theorem d_X_arrival_8 : decode b_X_arrival 8 = .ok (.iload_n 1, 1) := by decide +kernel
theorem d_X_arrival_9 : decode b_X_arrival 9 = .ok (.aaload, 1) := by decide +kernel
theorem d_X_arrival_10 : decode b_X_arrival 10 = .ok (.iload_n 2, 1) := by decide +kernel
theorem d_X_arrival_11 : decode b_X_arrival 11 = .ok (.iload 4, 2) := by decide +kernel
theorem d_X_arrival_13 : decode b_X_arrival 13 = .ok (.invokevirtual 115, 3) := by decide +kernel
theorem d_X_arrival_16 : decode b_X_arrival 16 = .ok (.aload_n 0, 1) := by decide +kernel
theorem d_X_arrival_17 : decode b_X_arrival 17 = .ok (.getfield 50, 3) := by decide +kernel
theorem d_X_arrival_20 : decode b_X_arrival 20 = .ok (.getfield 119, 3) := by decide +kernel
theorem d_X_arrival_23 : decode b_X_arrival 23 = .ok (.iload_n 3, 1) := by decide +kernel
theorem d_X_arrival_24 : decode b_X_arrival 24 = .ok (.iaload, 1) := by decide +kernel
theorem d_X_arrival_25 : decode b_X_arrival 25 = .ok (.istore 5, 2) := by decide +kernel
theorem d_X_arrival_27 : decode b_X_arrival 27 = .ok (.iload 5, 2) := by decide +kernel
theorem d_X_arrival_29 : decode b_X_arrival 29 = .ok (.ldc 123, 2) := by decide +kernel
theorem d_X_arrival_31 : decode b_X_arrival 31 = .ok (.if_icmp .ne 7, 3) := by decide +kernel
theorem d_X_arrival_34 : decode b_X_arrival 34 = .ok (.iconst (-1), 1) := by decide +kernel
theorem d_X_arrival_35 : decode b_X_arrival 35 = .ok (.goto 5, 3) := by decide +kernel
theorem d_X_arrival_38 : decode b_X_arrival 38 = .ok (.iload 5, 2) := by decide +kernel
theorem d_X_arrival_40 : decode b_X_arrival 40 = .ok (.ireturn, 1) := by decide +kernel
theorem d_X_best_0 : decode b_X_best 0 = .ok (.iload_n 1, 1) := by decide +kernel
theorem d_X_best_1 : decode b_X_best 1 = .ok (.invokestatic 71, 3) := by decide +kernel
theorem d_X_best_4 : decode b_X_best 4 = .ok (.ifCond .eq 24, 3) := by decide +kernel
theorem d_X_best_7 : decode b_X_best 7 = .ok (.iload_n 2, 1) := by decide +kernel
theorem d_X_best_8 : decode b_X_best 8 = .ok (.invokestatic 71, 3) := by decide +kernel
theorem d_X_best_11 : decode b_X_best 11 = .ok (.ifCond .eq 17, 3) := by decide +kernel
theorem d_X_best_14 : decode b_X_best 14 = .ok (.iload_n 3, 1) := by decide +kernel
theorem d_X_best_15 : decode b_X_best 15 = .ok (.ifCond .lt 13, 3) := by decide +kernel
theorem d_X_best_18 : decode b_X_best 18 = .ok (.iload_n 3, 1) := by decide +kernel
theorem d_X_best_19 : decode b_X_best 19 = .ok (.ldc 110, 2) := by decide +kernel
theorem d_X_best_21 : decode b_X_best 21 = .ok (.if_icmp .gt 7, 3) := by decide +kernel
theorem d_X_best_24 : decode b_X_best 24 = .ok (.iconst 1, 1) := by decide +kernel
theorem d_X_best_25 : decode b_X_best 25 = .ok (.goto 4, 3) := by decide +kernel
theorem d_X_best_28 : decode b_X_best 28 = .ok (.iconst 0, 1) := by decide +kernel
theorem d_X_best_29 : decode b_X_best 29 = .ok (.invokestatic 78, 3) := by decide +kernel
theorem d_X_best_32 : decode b_X_best 32 = .ok (.aload_n 0, 1) := by decide +kernel
theorem d_X_best_33 : decode b_X_best 33 = .ok (.aload_n 0, 1) := by decide +kernel
theorem d_X_best_34 : decode b_X_best 34 = .ok (.getfield 100, 3) := by decide +kernel
theorem d_X_best_37 : decode b_X_best 37 = .ok (.iload_n 1, 1) := by decide +kernel
theorem d_X_best_38 : decode b_X_best 38 = .ok (.iload_n 2, 1) := by decide +kernel
theorem d_X_best_39 : decode b_X_best 39 = .ok (.iload_n 3, 1) := by decide +kernel
theorem d_X_best_40 : decode b_X_best 40 = .ok (.invokevirtual 111, 3) := by decide +kernel
theorem d_X_best_43 : decode b_X_best 43 = .ok (.ireturn, 1) := by decide +kernel
theorem d_X_isBox_0 : decode b_X_isBox 0 = .ok (.iload_n 0, 1) := by decide +kernel
theorem d_X_isBox_1 : decode b_X_isBox 1 = .ok (.invokestatic 71, 3) := by decide +kernel
theorem d_X_isBox_4 : decode b_X_isBox 4 = .ok (.ifCond .eq 15, 3) := by decide +kernel
theorem d_X_isBox_7 : decode b_X_isBox 7 = .ok (.iload_n 1, 1) := by decide +kernel
theorem d_X_isBox_8 : decode b_X_isBox 8 = .ok (.iconst 3, 1) := by decide +kernel
theorem d_X_isBox_9 : decode b_X_isBox 9 = .ok (.invokestatic 74, 3) := by decide +kernel
theorem d_X_isBox_12 : decode b_X_isBox 12 = .ok (.ifCond .eq 7, 3) := by decide +kernel
theorem d_X_isBox_15 : decode b_X_isBox 15 = .ok (.iconst 1, 1) := by decide +kernel
theorem d_X_isBox_16 : decode b_X_isBox 16 = .ok (.goto 4, 3) := by decide +kernel
theorem d_X_isBox_19 : decode b_X_isBox 19 = .ok (.iconst 0, 1) := by decide +kernel
theorem d_X_isBox_20 : decode b_X_isBox 20 = .ok (.ireturn, 1) := by decide +kernel
theorem d_X_piecesIn_0 : decode b_X_piecesIn 0 = .ok (.iload_n 0, 1) := by decide +kernel
theorem d_X_piecesIn_1 : decode b_X_piecesIn 1 = .ok (.bipush 8, 2) := by decide +kernel
theorem d_X_piecesIn_3 : decode b_X_piecesIn 3 = .ok (.iadd, 1) := by decide +kernel
theorem d_X_piecesIn_4 : decode b_X_piecesIn 4 = .ok (.iconst 1, 1) := by decide +kernel
theorem d_X_piecesIn_5 : decode b_X_piecesIn 5 = .ok (.isub, 1) := by decide +kernel
theorem d_X_piecesIn_6 : decode b_X_piecesIn 6 = .ok (.bipush 8, 2) := by decide +kernel
theorem d_X_piecesIn_8 : decode b_X_piecesIn 8 = .ok (.idiv, 1) := by decide +kernel
theorem d_X_piecesIn_9 : decode b_X_piecesIn 9 = .ok (.ireturn, 1) := by decide +kernel
theorem d_X_byteAt_0 : decode b_X_byteAt 0 = .ok (.lload_n 0, 1) := by decide +kernel
theorem d_X_byteAt_1 : decode b_X_byteAt 1 = .ok (.bipush 8, 2) := by decide +kernel
theorem d_X_byteAt_3 : decode b_X_byteAt 3 = .ok (.iload_n 2, 1) := by decide +kernel
theorem d_X_byteAt_4 : decode b_X_byteAt 4 = .ok (.imul, 1) := by decide +kernel
theorem d_X_byteAt_5 : decode b_X_byteAt 5 = .ok (.lushr, 1) := by decide +kernel
theorem d_X_byteAt_6 : decode b_X_byteAt 6 = .ok (.l2i, 1) := by decide +kernel
theorem d_X_byteAt_7 : decode b_X_byteAt 7 = .ok (.sipush 255, 3) := by decide +kernel
theorem d_X_byteAt_10 : decode b_X_byteAt 10 = .ok (.iand, 1) := by decide +kernel
theorem d_X_byteAt_11 : decode b_X_byteAt 11 = .ok (.ireturn, 1) := by decide +kernel
theorem d_X_sumOf_0 : decode b_X_sumOf 0 = .ok (.iconst 0, 1) := by decide +kernel
theorem d_X_sumOf_1 : decode b_X_sumOf 1 = .ok (.istore_n 2, 1) := by decide +kernel
theorem d_X_sumOf_2 : decode b_X_sumOf 2 = .ok (.iconst 0, 1) := by decide +kernel
theorem d_X_sumOf_3 : decode b_X_sumOf 3 = .ok (.istore_n 3, 1) := by decide +kernel
theorem d_X_sumOf_4 : decode b_X_sumOf 4 = .ok (.iload_n 3, 1) := by decide +kernel
theorem d_X_sumOf_5 : decode b_X_sumOf 5 = .ok (.iload_n 1, 1) := by decide +kernel
theorem d_X_sumOf_6 : decode b_X_sumOf 6 = .ok (.if_icmp .ge 32, 3) := by decide +kernel
theorem d_X_sumOf_9 : decode b_X_sumOf 9 = .ok (.iload_n 2, 1) := by decide +kernel
theorem d_X_sumOf_10 : decode b_X_sumOf 10 = .ok (.iconst 5, 1) := by decide +kernel
theorem d_X_sumOf_11 : decode b_X_sumOf 11 = .ok (.ishl, 1) := by decide +kernel
theorem d_X_sumOf_12 : decode b_X_sumOf 12 = .ok (.iload_n 2, 1) := by decide +kernel
theorem d_X_sumOf_13 : decode b_X_sumOf 13 = .ok (.bipush 27, 2) := by decide +kernel
theorem d_X_sumOf_15 : decode b_X_sumOf 15 = .ok (.iushr, 1) := by decide +kernel
theorem d_X_sumOf_16 : decode b_X_sumOf 16 = .ok (.ior, 1) := by decide +kernel
theorem d_X_sumOf_17 : decode b_X_sumOf 17 = .ok (.aload_n 0, 1) := by decide +kernel
theorem d_X_sumOf_18 : decode b_X_sumOf 18 = .ok (.iload_n 3, 1) := by decide +kernel
theorem d_X_sumOf_19 : decode b_X_sumOf 19 = .ok (.bipush 8, 2) := by decide +kernel
theorem d_X_sumOf_21 : decode b_X_sumOf 21 = .ok (.idiv, 1) := by decide +kernel
theorem d_X_sumOf_22 : decode b_X_sumOf 22 = .ok (.laload, 1) := by decide +kernel
theorem d_X_sumOf_23 : decode b_X_sumOf 23 = .ok (.iload_n 3, 1) := by decide +kernel
theorem d_X_sumOf_24 : decode b_X_sumOf 24 = .ok (.bipush 8, 2) := by decide +kernel
theorem d_X_sumOf_26 : decode b_X_sumOf 26 = .ok (.irem, 1) := by decide +kernel
theorem d_X_sumOf_27 : decode b_X_sumOf 27 = .ok (.invokestatic 158, 3) := by decide +kernel
theorem d_X_sumOf_30 : decode b_X_sumOf 30 = .ok (.ixor, 1) := by decide +kernel
theorem d_X_sumOf_31 : decode b_X_sumOf 31 = .ok (.istore_n 2, 1) := by decide +kernel
theorem d_X_sumOf_32 : decode b_X_sumOf 32 = .ok (.iinc 3 1, 3) := by decide +kernel
theorem d_X_sumOf_35 : decode b_X_sumOf 35 = .ok (.goto (-31), 3) := by decide +kernel
theorem d_X_sumOf_38 : decode b_X_sumOf 38 = .ok (.iload_n 2, 1) := by decide +kernel
theorem d_X_sumOf_39 : decode b_X_sumOf 39 = .ok (.ireturn, 1) := by decide +kernel
theorem d_X_lookAt_0 : decode b_X_lookAt 0 = .ok (.aload_n 0, 1) := by decide +kernel
theorem d_X_lookAt_1 : decode b_X_lookAt 1 = .ok (.getfield 38, 3) := by decide +kernel
theorem d_X_lookAt_4 : decode b_X_lookAt 4 = .ok (.iload_n 1, 1) := by decide +kernel
theorem d_X_lookAt_5 : decode b_X_lookAt 5 = .ok (.aaload, 1) := by decide +kernel
theorem d_X_lookAt_6 : decode b_X_lookAt 6 = .ok (.astore_n 2, 1) := by decide +kernel
theorem d_X_lookAt_7 : decode b_X_lookAt 7 = .ok (.aload_n 0, 1) := by decide +kernel
theorem d_X_lookAt_8 : decode b_X_lookAt 8 = .ok (.getfield 22, 3) := by decide +kernel
theorem d_X_lookAt_11 : decode b_X_lookAt 11 = .ok (.aload_n 2, 1) := by decide +kernel
theorem d_X_lookAt_12 : decode b_X_lookAt 12 = .ok (.getfield 185, 3) := by decide +kernel
theorem d_X_lookAt_15 : decode b_X_lookAt 15 = .ok (.aaload, 1) := by decide +kernel
theorem d_X_lookAt_16 : decode b_X_lookAt 16 = .ok (.astore_n 3, 1) := by decide +kernel
theorem d_X_lookAt_17 : decode b_X_lookAt 17 = .ok (.aload_n 3, 1) := by decide +kernel
theorem d_X_lookAt_18 : decode b_X_lookAt 18 = .ok (.getfield 227, 3) := by decide +kernel
theorem d_X_lookAt_21 : decode b_X_lookAt 21 = .ok (.iload_n 1, 1) := by decide +kernel
theorem d_X_lookAt_22 : decode b_X_lookAt 22 = .ok (.iaload, 1) := by decide +kernel
theorem d_X_lookAt_23 : decode b_X_lookAt 23 = .ok (.ifCond .ne 18, 3) := by decide +kernel
theorem d_X_lookAt_26 : decode b_X_lookAt 26 = .ok (.aload_n 3, 1) := by decide +kernel
theorem d_X_lookAt_27 : decode b_X_lookAt 27 = .ok (.iload_n 1, 1) := by decide +kernel
theorem d_X_lookAt_28 : decode b_X_lookAt 28 = .ok (.invokevirtual 234, 3) := by decide +kernel
theorem d_X_lookAt_31 : decode b_X_lookAt 31 = .ok (.aload_n 2, 1) := by decide +kernel
theorem d_X_lookAt_32 : decode b_X_lookAt 32 = .ok (.getfield 152, 3) := by decide +kernel
theorem d_X_lookAt_35 : decode b_X_lookAt 35 = .ok (.invokestatic 178, 3) := by decide +kernel
theorem d_X_lookAt_38 : decode b_X_lookAt 38 = .ok (.if_icmp .ge 4, 3) := by decide +kernel
theorem d_X_lookAt_41 : decode b_X_lookAt 41 = .ok (.return_, 1) := by decide +kernel
theorem d_X_lookAt_42 : decode b_X_lookAt 42 = .ok (.aload_n 3, 1) := by decide +kernel
theorem d_X_lookAt_43 : decode b_X_lookAt 43 = .ok (.getfield 253, 3) := by decide +kernel
theorem d_X_lookAt_46 : decode b_X_lookAt 46 = .ok (.iload_n 1, 1) := by decide +kernel
theorem d_X_lookAt_47 : decode b_X_lookAt 47 = .ok (.iconst 4, 1) := by decide +kernel
theorem d_X_lookAt_48 : decode b_X_lookAt 48 = .ok (.imul, 1) := by decide +kernel
theorem d_X_lookAt_49 : decode b_X_lookAt 49 = .ok (.aload_n 2, 1) := by decide +kernel
theorem d_X_lookAt_50 : decode b_X_lookAt 50 = .ok (.getfield 155, 3) := by decide +kernel
theorem d_X_lookAt_53 : decode b_X_lookAt 53 = .ok (.iconst 0, 1) := by decide +kernel
theorem d_X_lookAt_54 : decode b_X_lookAt 54 = .ok (.iconst 4, 1) := by decide +kernel
theorem d_X_lookAt_55 : decode b_X_lookAt 55 = .ok (.invokestatic 255, 3) := by decide +kernel
theorem d_X_lookAt_58 : decode b_X_lookAt 58 = .ok (.aload_n 2, 1) := by decide +kernel
theorem d_X_lookAt_59 : decode b_X_lookAt 59 = .ok (.getfield 155, 3) := by decide +kernel
theorem d_X_lookAt_62 : decode b_X_lookAt 62 = .ok (.aload_n 2, 1) := by decide +kernel
theorem d_X_lookAt_63 : decode b_X_lookAt 63 = .ok (.getfield 152, 3) := by decide +kernel
theorem d_X_lookAt_66 : decode b_X_lookAt 66 = .ok (.invokestatic 203, 3) := by decide +kernel
theorem d_X_lookAt_69 : decode b_X_lookAt 69 = .ok (.aload_n 2, 1) := by decide +kernel
theorem d_X_lookAt_70 : decode b_X_lookAt 70 = .ok (.getfield 207, 3) := by decide +kernel
theorem d_X_lookAt_73 : decode b_X_lookAt 73 = .ok (.if_icmp .eq 12, 3) := by decide +kernel
theorem d_X_lookAt_76 : decode b_X_lookAt 76 = .ok (.aload_n 3, 1) := by decide +kernel
theorem d_X_lookAt_77 : decode b_X_lookAt 77 = .ok (.iload_n 1, 1) := by decide +kernel
theorem d_X_lookAt_78 : decode b_X_lookAt 78 = .ok (.iconst 2, 1) := by decide +kernel
theorem d_X_lookAt_79 : decode b_X_lookAt 79 = .ok (.invokevirtual 261, 3) := by decide +kernel
theorem d_X_lookAt_82 : decode b_X_lookAt 82 = .ok (.goto 33, 3) := by decide +kernel
theorem d_X_lookAt_85 : decode b_X_lookAt 85 = .ok (.aload_n 0, 1) := by decide +kernel
theorem d_X_lookAt_86 : decode b_X_lookAt 86 = .ok (.getfield 31, 3) := by decide +kernel
theorem d_X_lookAt_89 : decode b_X_lookAt 89 = .ok (.aload_n 2, 1) := by decide +kernel
theorem d_X_lookAt_90 : decode b_X_lookAt 90 = .ok (.getfield 185, 3) := by decide +kernel
theorem d_X_lookAt_93 : decode b_X_lookAt 93 = .ok (.aaload, 1) := by decide +kernel
theorem d_X_lookAt_94 : decode b_X_lookAt 94 = .ok (.aload_n 2, 1) := by decide +kernel
theorem d_X_lookAt_95 : decode b_X_lookAt 95 = .ok (.getfield 188, 3) := by decide +kernel
theorem d_X_lookAt_98 : decode b_X_lookAt 98 = .ok (.iload_n 1, 1) := by decide +kernel
theorem d_X_lookAt_99 : decode b_X_lookAt 99 = .ok (.aload_n 2, 1) := by decide +kernel
theorem d_X_lookAt_100 : decode b_X_lookAt 100 = .ok (.getfield 152, 3) := by decide +kernel
theorem d_X_lookAt_103 : decode b_X_lookAt 103 = .ok (.invokevirtual 264, 3) := by decide +kernel
theorem d_X_lookAt_106 : decode b_X_lookAt 106 = .ok (.ifCond .eq 9, 3) := by decide +kernel
theorem d_X_lookAt_109 : decode b_X_lookAt 109 = .ok (.aload_n 3, 1) := by decide +kernel
theorem d_X_lookAt_110 : decode b_X_lookAt 110 = .ok (.iload_n 1, 1) := by decide +kernel
theorem d_X_lookAt_111 : decode b_X_lookAt 111 = .ok (.iconst 1, 1) := by decide +kernel
theorem d_X_lookAt_112 : decode b_X_lookAt 112 = .ok (.invokevirtual 261, 3) := by decide +kernel
theorem d_X_lookAt_115 : decode b_X_lookAt 115 = .ok (.return_, 1) := by decide +kernel
theorem d_X_lookAtAllOf_0 : decode b_X_lookAtAllOf 0 = .ok (.iconst 0, 1) := by decide +kernel
theorem d_X_lookAtAllOf_1 : decode b_X_lookAtAllOf 1 = .ok (.istore_n 2, 1) := by decide +kernel
theorem d_X_lookAtAllOf_2 : decode b_X_lookAtAllOf 2 = .ok (.iload_n 2, 1) := by decide +kernel
theorem d_X_lookAtAllOf_3 : decode b_X_lookAtAllOf 3 = .ok (.aload_n 0, 1) := by decide +kernel
theorem d_X_lookAtAllOf_4 : decode b_X_lookAtAllOf 4 = .ok (.getfield 171, 3) := by decide +kernel
theorem d_X_lookAtAllOf_7 : decode b_X_lookAtAllOf 7 = .ok (.if_icmp .ge 27, 3) := by decide +kernel
theorem d_X_lookAtAllOf_10 : decode b_X_lookAtAllOf 10 = .ok (.aload_n 0, 1) := by decide +kernel
theorem d_X_lookAtAllOf_11 : decode b_X_lookAtAllOf 11 = .ok (.getfield 38, 3) := by decide +kernel
theorem d_X_lookAtAllOf_14 : decode b_X_lookAtAllOf 14 = .ok (.iload_n 2, 1) := by decide +kernel
theorem d_X_lookAtAllOf_15 : decode b_X_lookAtAllOf 15 = .ok (.aaload, 1) := by decide +kernel
theorem d_X_lookAtAllOf_16 : decode b_X_lookAtAllOf 16 = .ok (.getfield 185, 3) := by decide +kernel
theorem d_X_lookAtAllOf_19 : decode b_X_lookAtAllOf 19 = .ok (.iload_n 1, 1) := by decide +kernel
theorem d_X_lookAtAllOf_20 : decode b_X_lookAtAllOf 20 = .ok (.if_icmp .ne 8, 3) := by decide +kernel
theorem d_X_lookAtAllOf_23 : decode b_X_lookAtAllOf 23 = .ok (.aload_n 0, 1) := by decide +kernel
theorem d_X_lookAtAllOf_24 : decode b_X_lookAtAllOf 24 = .ok (.iload_n 2, 1) := by decide +kernel
theorem d_X_lookAtAllOf_25 : decode b_X_lookAtAllOf 25 = .ok (.invokevirtual 214, 3) := by decide +kernel
theorem d_X_lookAtAllOf_28 : decode b_X_lookAtAllOf 28 = .ok (.iinc 2 1, 3) := by decide +kernel
theorem d_X_lookAtAllOf_31 : decode b_X_lookAtAllOf 31 = .ok (.goto (-29), 3) := by decide +kernel
theorem d_X_lookAtAllOf_34 : decode b_X_lookAtAllOf 34 = .ok (.return_, 1) := by decide +kernel
theorem d_X_household_0 : decode b_X_household 0 = .ok (.iload_n 1, 1) := by decide +kernel
theorem d_X_household_1 : decode b_X_household 1 = .ok (.iload_n 2, 1) := by decide +kernel
theorem d_X_household_2 : decode b_X_household 2 = .ok (.invokestatic 124, 3) := by decide +kernel
theorem d_X_household_5 : decode b_X_household 5 = .ok (.ifCond .eq 17, 3) := by decide +kernel
theorem d_X_household_8 : decode b_X_household 8 = .ok (.iload_n 3, 1) := by decide +kernel
theorem d_X_household_9 : decode b_X_household 9 = .ok (.sipush 201, 3) := by decide +kernel
theorem d_X_household_12 : decode b_X_household 12 = .ok (.invokestatic 74, 3) := by decide +kernel
theorem d_X_household_15 : decode b_X_household 15 = .ok (.ifCond .eq 7, 3) := by decide +kernel
theorem d_X_household_18 : decode b_X_household 18 = .ok (.iconst 1, 1) := by decide +kernel
theorem d_X_household_19 : decode b_X_household 19 = .ok (.goto 4, 3) := by decide +kernel
theorem d_X_household_22 : decode b_X_household 22 = .ok (.iconst 0, 1) := by decide +kernel
theorem d_X_household_23 : decode b_X_household 23 = .ok (.invokestatic 78, 3) := by decide +kernel
theorem d_X_household_26 : decode b_X_household 26 = .ok (.aload_n 0, 1) := by decide +kernel
theorem d_X_household_27 : decode b_X_household 27 = .ok (.getfield 31, 3) := by decide +kernel
theorem d_X_household_30 : decode b_X_household 30 = .ok (.iload_n 1, 1) := by decide +kernel
theorem d_X_household_31 : decode b_X_household 31 = .ok (.aaload, 1) := by decide +kernel
theorem d_X_household_32 : decode b_X_household 32 = .ok (.getfield 127, 3) := by decide +kernel
theorem d_X_household_35 : decode b_X_household 35 = .ok (.iload_n 2, 1) := by decide +kernel
theorem d_X_household_36 : decode b_X_household 36 = .ok (.aaload, 1) := by decide +kernel
theorem d_X_household_37 : decode b_X_household 37 = .ok (.iload_n 3, 1) := by decide +kernel
theorem d_X_household_38 : decode b_X_household 38 = .ok (.putfield 131, 3) := by decide +kernel
theorem d_X_household_41 : decode b_X_household 41 = .ok (.aload_n 0, 1) := by decide +kernel
theorem d_X_household_42 : decode b_X_household 42 = .ok (.iload_n 1, 1) := by decide +kernel
theorem d_X_household_43 : decode b_X_household 43 = .ok (.invokevirtual 136, 3) := by decide +kernel
theorem d_X_household_46 : decode b_X_household 46 = .ok (.return_, 1) := by decide +kernel
theorem d_X_group_0 : decode b_X_group 0 = .ok (.iload_n 1, 1) := by decide +kernel
theorem d_X_group_1 : decode b_X_group 1 = .ok (.iload_n 3, 1) := by decide +kernel
theorem d_X_group_2 : decode b_X_group 2 = .ok (.invokestatic 124, 3) := by decide +kernel
theorem d_X_group_5 : decode b_X_group 5 = .ok (.ifCond .eq 15, 3) := by decide +kernel
theorem d_X_group_8 : decode b_X_group 8 = .ok (.iload_n 2, 1) := by decide +kernel
theorem d_X_group_9 : decode b_X_group 9 = .ok (.iconst 2, 1) := by decide +kernel
theorem d_X_group_10 : decode b_X_group 10 = .ok (.invokestatic 74, 3) := by decide +kernel
theorem d_X_group_13 : decode b_X_group 13 = .ok (.ifCond .eq 7, 3) := by decide +kernel
theorem d_X_group_16 : decode b_X_group 16 = .ok (.iconst 1, 1) := by decide +kernel
theorem d_X_group_17 : decode b_X_group 17 = .ok (.goto 4, 3) := by decide +kernel
theorem d_X_group_20 : decode b_X_group 20 = .ok (.iconst 0, 1) := by decide +kernel
theorem d_X_group_21 : decode b_X_group 21 = .ok (.invokestatic 78, 3) := by decide +kernel
theorem d_X_group_24 : decode b_X_group 24 = .ok (.aload_n 0, 1) := by decide +kernel
theorem d_X_group_25 : decode b_X_group 25 = .ok (.getfield 31, 3) := by decide +kernel
theorem d_X_group_28 : decode b_X_group 28 = .ok (.iload_n 1, 1) := by decide +kernel
theorem d_X_group_29 : decode b_X_group 29 = .ok (.aaload, 1) := by decide +kernel
theorem d_X_group_30 : decode b_X_group 30 = .ok (.iload_n 2, 1) := by decide +kernel
theorem d_X_group_31 : decode b_X_group 31 = .ok (.iload_n 3, 1) := by decide +kernel
theorem d_X_group_32 : decode b_X_group 32 = .ok (.invokevirtual 139, 3) := by decide +kernel
theorem d_X_group_35 : decode b_X_group 35 = .ok (.istore 4, 2) := by decide +kernel
theorem d_X_group_37 : decode b_X_group 37 = .ok (.iload 4, 2) := by decide +kernel
theorem d_X_group_39 : decode b_X_group 39 = .ok (.ifCond .eq 8, 3) := by decide +kernel
theorem d_X_group_42 : decode b_X_group 42 = .ok (.aload_n 0, 1) := by decide +kernel
theorem d_X_group_43 : decode b_X_group 43 = .ok (.iload_n 1, 1) := by decide +kernel
theorem d_X_group_44 : decode b_X_group 44 = .ok (.invokevirtual 136, 3) := by decide +kernel
theorem d_X_group_47 : decode b_X_group 47 = .ok (.iload 4, 2) := by decide +kernel
theorem d_X_group_49 : decode b_X_group 49 = .ok (.ireturn, 1) := by decide +kernel
theorem d_X_box_0 : decode b_X_box 0 = .ok (.iload_n 1, 1) := by decide +kernel
theorem d_X_box_1 : decode b_X_box 1 = .ok (.iload_n 2, 1) := by decide +kernel
theorem d_X_box_2 : decode b_X_box 2 = .ok (.invokestatic 124, 3) := by decide +kernel
theorem d_X_box_5 : decode b_X_box 5 = .ok (.ifCond .eq 15, 3) := by decide +kernel
theorem d_X_box_8 : decode b_X_box 8 = .ok (.iload_n 3, 1) := by decide +kernel
theorem d_X_box_9 : decode b_X_box 9 = .ok (.iconst 3, 1) := by decide +kernel
theorem d_X_box_10 : decode b_X_box 10 = .ok (.invokestatic 74, 3) := by decide +kernel
theorem d_X_box_13 : decode b_X_box 13 = .ok (.ifCond .eq 7, 3) := by decide +kernel
theorem d_X_box_16 : decode b_X_box 16 = .ok (.iconst 1, 1) := by decide +kernel
theorem d_X_box_17 : decode b_X_box 17 = .ok (.goto 4, 3) := by decide +kernel
theorem d_X_box_20 : decode b_X_box 20 = .ok (.iconst 0, 1) := by decide +kernel
theorem d_X_box_21 : decode b_X_box 21 = .ok (.invokestatic 78, 3) := by decide +kernel
theorem d_X_box_24 : decode b_X_box 24 = .ok (.aload_n 0, 1) := by decide +kernel
theorem d_X_box_25 : decode b_X_box 25 = .ok (.getfield 31, 3) := by decide +kernel
theorem d_X_box_28 : decode b_X_box 28 = .ok (.iload_n 1, 1) := by decide +kernel
theorem d_X_box_29 : decode b_X_box 29 = .ok (.aaload, 1) := by decide +kernel
theorem d_X_box_30 : decode b_X_box 30 = .ok (.getfield 127, 3) := by decide +kernel
theorem d_X_box_33 : decode b_X_box 33 = .ok (.iload_n 2, 1) := by decide +kernel
theorem d_X_box_34 : decode b_X_box 34 = .ok (.aaload, 1) := by decide +kernel
theorem d_X_box_35 : decode b_X_box 35 = .ok (.astore 4, 2) := by decide +kernel
theorem d_X_box_37 : decode b_X_box 37 = .ok (.iload_n 3, 1) := by decide +kernel
theorem d_X_box_38 : decode b_X_box 38 = .ok (.ifCond .ne 9, 3) := by decide +kernel
theorem d_X_box_41 : decode b_X_box 41 = .ok (.aload 4, 2) := by decide +kernel
theorem d_X_box_43 : decode b_X_box 43 = .ok (.getfield 142, 3) := by decide +kernel
theorem d_X_box_46 : decode b_X_box 46 = .ok (.ireturn, 1) := by decide +kernel
theorem d_X_box_47 : decode b_X_box 47 = .ok (.iload_n 3, 1) := by decide +kernel
theorem d_X_box_48 : decode b_X_box 48 = .ok (.iconst 1, 1) := by decide +kernel
theorem d_X_box_49 : decode b_X_box 49 = .ok (.if_icmp .ne 11, 3) := by decide +kernel
theorem d_X_box_52 : decode b_X_box 52 = .ok (.aload 4, 2) := by decide +kernel
theorem d_X_box_54 : decode b_X_box 54 = .ok (.getfield 143, 3) := by decide +kernel
theorem d_X_box_57 : decode b_X_box 57 = .ok (.goto 8, 3) := by decide +kernel
theorem d_X_box_60 : decode b_X_box 60 = .ok (.aload 4, 2) := by decide +kernel
theorem d_X_box_62 : decode b_X_box 62 = .ok (.getfield 131, 3) := by decide +kernel
theorem d_X_box_65 : decode b_X_box 65 = .ok (.ireturn, 1) := by decide +kernel
theorem d_X_demandIndex_0 : decode b_X_demandIndex 0 = .ok (.iload_n 0, 1) := by decide +kernel
theorem d_X_demandIndex_1 : decode b_X_demandIndex 1 = .ok (.iload_n 1, 1) := by decide +kernel
theorem d_X_demandIndex_2 : decode b_X_demandIndex 2 = .ok (.invokestatic 74, 3) := by decide +kernel
theorem d_X_demandIndex_5 : decode b_X_demandIndex 5 = .ok (.ifCond .ne 11, 3) := by decide +kernel
theorem d_X_demandIndex_8 : decode b_X_demandIndex 8 = .ok (.new 350, 3) := by decide +kernel
theorem d_X_demandIndex_11 : decode b_X_demandIndex 11 = .ok (.dup, 1) := by decide +kernel
theorem d_X_demandIndex_12 : decode b_X_demandIndex 12 = .ok (.invokespecial 352, 3) := by decide +kernel
theorem d_X_demandIndex_15 : decode b_X_demandIndex 15 = .ok (.athrow, 1) := by decide +kernel
theorem d_X_demandIndex_16 : decode b_X_demandIndex 16 = .ok (.return_, 1) := by decide +kernel
theorem d_X_read_0 : decode b_X_read 0 = .ok (.iload_n 1, 1) := by decide +kernel
theorem d_X_read_1 : decode b_X_read 1 = .ok (.iload_n 2, 1) := by decide +kernel
theorem d_X_read_2 : decode b_X_read 2 = .ok (.invokestatic 124, 3) := by decide +kernel
theorem d_X_read_5 : decode b_X_read 5 = .ok (.invokestatic 78, 3) := by decide +kernel
theorem d_X_read_8 : decode b_X_read 8 = .ok (.aload_n 0, 1) := by decide +kernel
theorem d_X_read_9 : decode b_X_read 9 = .ok (.getfield 31, 3) := by decide +kernel
theorem d_X_read_12 : decode b_X_read 12 = .ok (.iload_n 1, 1) := by decide +kernel
theorem d_X_read_13 : decode b_X_read 13 = .ok (.aaload, 1) := by decide +kernel
theorem d_X_read_14 : decode b_X_read 14 = .ok (.getfield 127, 3) := by decide +kernel
theorem d_X_read_17 : decode b_X_read 17 = .ok (.iload_n 2, 1) := by decide +kernel
theorem d_X_read_18 : decode b_X_read 18 = .ok (.aaload, 1) := by decide +kernel
theorem d_X_read_19 : decode b_X_read 19 = .ok (.astore 5, 2) := by decide +kernel
theorem d_X_read_21 : decode b_X_read 21 = .ok (.iload_n 3, 1) := by decide +kernel
theorem d_X_read_22 : decode b_X_read 22 = .ok (.aload 5, 2) := by decide +kernel
theorem d_X_read_24 : decode b_X_read 24 = .ok (.getfield 142, 3) := by decide +kernel
theorem d_X_read_27 : decode b_X_read 27 = .ok (.invokestatic 146, 3) := by decide +kernel
theorem d_X_read_30 : decode b_X_read 30 = .ok (.aload_n 0, 1) := by decide +kernel
theorem d_X_read_31 : decode b_X_read 31 = .ok (.getfield 38, 3) := by decide +kernel
theorem d_X_read_34 : decode b_X_read 34 = .ok (.aload 5, 2) := by decide +kernel
theorem d_X_read_36 : decode b_X_read 36 = .ok (.getfield 150, 3) := by decide +kernel
theorem d_X_read_39 : decode b_X_read 39 = .ok (.iload_n 3, 1) := by decide +kernel
theorem d_X_read_40 : decode b_X_read 40 = .ok (.iaload, 1) := by decide +kernel
theorem d_X_read_41 : decode b_X_read 41 = .ok (.aaload, 1) := by decide +kernel
theorem d_X_read_42 : decode b_X_read 42 = .ok (.astore 6, 2) := by decide +kernel
theorem d_X_read_44 : decode b_X_read 44 = .ok (.iload 4, 2) := by decide +kernel
theorem d_X_read_46 : decode b_X_read 46 = .ok (.aload 6, 2) := by decide +kernel
theorem d_X_read_48 : decode b_X_read 48 = .ok (.getfield 152, 3) := by decide +kernel
theorem d_X_read_51 : decode b_X_read 51 = .ok (.invokestatic 146, 3) := by decide +kernel
theorem d_X_read_54 : decode b_X_read 54 = .ok (.aload 6, 2) := by decide +kernel
theorem d_X_read_56 : decode b_X_read 56 = .ok (.getfield 155, 3) := by decide +kernel
theorem d_X_read_59 : decode b_X_read 59 = .ok (.iload 4, 2) := by decide +kernel
theorem d_X_read_61 : decode b_X_read 61 = .ok (.bipush 8, 2) := by decide +kernel
theorem d_X_read_63 : decode b_X_read 63 = .ok (.idiv, 1) := by decide +kernel
theorem d_X_read_64 : decode b_X_read 64 = .ok (.laload, 1) := by decide +kernel
theorem d_X_read_65 : decode b_X_read 65 = .ok (.iload 4, 2) := by decide +kernel
theorem d_X_read_67 : decode b_X_read 67 = .ok (.bipush 8, 2) := by decide +kernel
theorem d_X_read_69 : decode b_X_read 69 = .ok (.irem, 1) := by decide +kernel
theorem d_X_read_70 : decode b_X_read 70 = .ok (.invokestatic 158, 3) := by decide +kernel
theorem d_X_read_73 : decode b_X_read 73 = .ok (.ireturn, 1) := by decide +kernel
theorem d_X_remove_0 : decode b_X_remove 0 = .ok (.iload_n 1, 1) := by decide +kernel
theorem d_X_remove_1 : decode b_X_remove 1 = .ok (.iload_n 2, 1) := by decide +kernel
theorem d_X_remove_2 : decode b_X_remove 2 = .ok (.invokestatic 124, 3) := by decide +kernel
theorem d_X_remove_5 : decode b_X_remove 5 = .ok (.invokestatic 78, 3) := by decide +kernel
theorem d_X_remove_8 : decode b_X_remove 8 = .ok (.aload_n 0, 1) := by decide +kernel
theorem d_X_remove_9 : decode b_X_remove 9 = .ok (.getfield 31, 3) := by decide +kernel
theorem d_X_remove_12 : decode b_X_remove 12 = .ok (.iload_n 1, 1) := by decide +kernel
theorem d_X_remove_13 : decode b_X_remove 13 = .ok (.aaload, 1) := by decide +kernel
theorem d_X_remove_14 : decode b_X_remove 14 = .ok (.getfield 127, 3) := by decide +kernel
theorem d_X_remove_17 : decode b_X_remove 17 = .ok (.iload_n 2, 1) := by decide +kernel
theorem d_X_remove_18 : decode b_X_remove 18 = .ok (.aaload, 1) := by decide +kernel
theorem d_X_remove_19 : decode b_X_remove 19 = .ok (.astore 4, 2) := by decide +kernel
theorem d_X_remove_21 : decode b_X_remove 21 = .ok (.iload_n 3, 1) := by decide +kernel
theorem d_X_remove_22 : decode b_X_remove 22 = .ok (.aload 4, 2) := by decide +kernel
theorem d_X_remove_24 : decode b_X_remove 24 = .ok (.getfield 142, 3) := by decide +kernel
theorem d_X_remove_27 : decode b_X_remove 27 = .ok (.invokestatic 146, 3) := by decide +kernel
theorem d_X_remove_30 : decode b_X_remove 30 = .ok (.aload 4, 2) := by decide +kernel
theorem d_X_remove_32 : decode b_X_remove 32 = .ok (.getfield 150, 3) := by decide +kernel
theorem d_X_remove_35 : decode b_X_remove 35 = .ok (.iload_n 3, 1) := by decide +kernel
theorem d_X_remove_36 : decode b_X_remove 36 = .ok (.iaload, 1) := by decide +kernel
theorem d_X_remove_37 : decode b_X_remove 37 = .ok (.istore 5, 2) := by decide +kernel
theorem d_X_remove_39 : decode b_X_remove 39 = .ok (.aload 4, 2) := by decide +kernel
theorem d_X_remove_41 : decode b_X_remove 41 = .ok (.iload_n 3, 1) := by decide +kernel
theorem d_X_remove_42 : decode b_X_remove 42 = .ok (.aload_n 0, 1) := by decide +kernel
theorem d_X_remove_43 : decode b_X_remove 43 = .ok (.getfield 38, 3) := by decide +kernel
theorem d_X_remove_46 : decode b_X_remove 46 = .ok (.iload 5, 2) := by decide +kernel
theorem d_X_remove_48 : decode b_X_remove 48 = .ok (.aaload, 1) := by decide +kernel
theorem d_X_remove_49 : decode b_X_remove 49 = .ok (.getfield 152, 3) := by decide +kernel
theorem d_X_remove_52 : decode b_X_remove 52 = .ok (.invokevirtual 162, 3) := by decide +kernel
theorem d_X_remove_55 : decode b_X_remove 55 = .ok (.aload_n 0, 1) := by decide +kernel
theorem d_X_remove_56 : decode b_X_remove 56 = .ok (.iload_n 1, 1) := by decide +kernel
theorem d_X_remove_57 : decode b_X_remove 57 = .ok (.invokevirtual 136, 3) := by decide +kernel
theorem d_X_remove_60 : decode b_X_remove 60 = .ok (.iload 5, 2) := by decide +kernel
theorem d_X_remove_62 : decode b_X_remove 62 = .ok (.ireturn, 1) := by decide +kernel
theorem d_X_shifted_0 : decode b_X_shifted 0 = .ok (.iload_n 0, 1) := by decide +kernel
theorem d_X_shifted_1 : decode b_X_shifted 1 = .ok (.i2l, 1) := by decide +kernel
theorem d_X_shifted_2 : decode b_X_shifted 2 = .ok (.ldc2_w 353, 3) := by decide +kernel
theorem d_X_shifted_5 : decode b_X_shifted 5 = .ok (.land, 1) := by decide +kernel
theorem d_X_shifted_6 : decode b_X_shifted 6 = .ok (.bipush 8, 2) := by decide +kernel
theorem d_X_shifted_8 : decode b_X_shifted 8 = .ok (.iload_n 1, 1) := by decide +kernel
theorem d_X_shifted_9 : decode b_X_shifted 9 = .ok (.imul, 1) := by decide +kernel
theorem d_X_shifted_10 : decode b_X_shifted 10 = .ok (.lshl, 1) := by decide +kernel
theorem d_X_shifted_11 : decode b_X_shifted 11 = .ok (.lreturn, 1) := by decide +kernel
theorem d_X_key_0 : decode b_X_key 0 = .ok (.aload_n 0, 1) := by decide +kernel
theorem d_X_key_1 : decode b_X_key 1 = .ok (.getfield 164, 3) := by decide +kernel
theorem d_X_key_4 : decode b_X_key 4 = .ok (.bipush 32, 2) := by decide +kernel
theorem d_X_key_6 : decode b_X_key 6 = .ok (.if_icmp .ne 5, 3) := by decide +kernel
theorem d_X_key_9 : decode b_X_key 9 = .ok (.iconst 0, 1) := by decide +kernel
theorem d_X_key_10 : decode b_X_key 10 = .ok (.ireturn, 1) := by decide +kernel
theorem d_X_key_11 : decode b_X_key 11 = .ok (.aload_n 0, 1) := by decide +kernel
theorem d_X_key_12 : decode b_X_key 12 = .ok (.getfield 164, 3) := by decide +kernel
theorem d_X_key_15 : decode b_X_key 15 = .ok (.bipush 8, 2) := by decide +kernel
theorem d_X_key_17 : decode b_X_key 17 = .ok (.idiv, 1) := by decide +kernel
theorem d_X_key_18 : decode b_X_key 18 = .ok (.istore_n 2, 1) := by decide +kernel
theorem d_X_key_19 : decode b_X_key 19 = .ok (.aload_n 0, 1) := by decide +kernel
theorem d_X_key_20 : decode b_X_key 20 = .ok (.getfield 43, 3) := by decide +kernel
theorem d_X_key_23 : decode b_X_key 23 = .ok (.iload_n 2, 1) := by decide +kernel
theorem d_X_key_24 : decode b_X_key 24 = .ok (.aload_n 0, 1) := by decide +kernel
theorem d_X_key_25 : decode b_X_key 25 = .ok (.getfield 43, 3) := by decide +kernel
theorem d_X_key_28 : decode b_X_key 28 = .ok (.iload_n 2, 1) := by decide +kernel
theorem d_X_key_29 : decode b_X_key 29 = .ok (.laload, 1) := by decide +kernel
theorem d_X_key_30 : decode b_X_key 30 = .ok (.iload_n 1, 1) := by decide +kernel
theorem d_X_key_31 : decode b_X_key 31 = .ok (.aload_n 0, 1) := by decide +kernel
theorem d_X_key_32 : decode b_X_key 32 = .ok (.getfield 164, 3) := by decide +kernel
theorem d_X_key_35 : decode b_X_key 35 = .ok (.bipush 8, 2) := by decide +kernel
theorem d_X_key_37 : decode b_X_key 37 = .ok (.irem, 1) := by decide +kernel
theorem d_X_key_38 : decode b_X_key 38 = .ok (.invokestatic 167, 3) := by decide +kernel
theorem d_X_key_41 : decode b_X_key 41 = .ok (.lxor, 1) := by decide +kernel
theorem d_X_key_42 : decode b_X_key 42 = .ok (.lastore, 1) := by decide +kernel
theorem d_X_key_43 : decode b_X_key 43 = .ok (.aload_n 0, 1) := by decide +kernel
theorem d_X_key_44 : decode b_X_key 44 = .ok (.dup, 1) := by decide +kernel
theorem d_X_key_45 : decode b_X_key 45 = .ok (.getfield 164, 3) := by decide +kernel
theorem d_X_key_48 : decode b_X_key 48 = .ok (.iconst 1, 1) := by decide +kernel
theorem d_X_key_49 : decode b_X_key 49 = .ok (.iadd, 1) := by decide +kernel
theorem d_X_key_50 : decode b_X_key 50 = .ok (.putfield 164, 3) := by decide +kernel
theorem d_X_key_53 : decode b_X_key 53 = .ok (.iconst 1, 1) := by decide +kernel
theorem d_X_key_54 : decode b_X_key 54 = .ok (.ireturn, 1) := by decide +kernel
theorem d_X_handOverText_0 : decode b_X_handOverText 0 = .ok (.aload_n 0, 1) := by decide +kernel
theorem d_X_handOverText_1 : decode b_X_handOverText 1 = .ok (.getfield 164, 3) := by decide +kernel
theorem d_X_handOverText_4 : decode b_X_handOverText 4 = .ok (.invokestatic 178, 3) := by decide +kernel
theorem d_X_handOverText_7 : decode b_X_handOverText 7 = .ok (.istore_n 3, 1) := by decide +kernel
theorem d_X_handOverText_8 : decode b_X_handOverText 8 = .ok (.iconst 0, 1) := by decide +kernel
theorem d_X_handOverText_9 : decode b_X_handOverText 9 = .ok (.istore 4, 2) := by decide +kernel
theorem d_X_handOverText_11 : decode b_X_handOverText 11 = .ok (.iload 4, 2) := by decide +kernel
theorem d_X_handOverText_13 : decode b_X_handOverText 13 = .ok (.iload_n 3, 1) := by decide +kernel
theorem d_X_handOverText_14 : decode b_X_handOverText 14 = .ok (.if_icmp .ge 27, 3) := by decide +kernel
theorem d_X_handOverText_17 : decode b_X_handOverText 17 = .ok (.aload_n 1, 1) := by decide +kernel
theorem d_X_handOverText_18 : decode b_X_handOverText 18 = .ok (.iload_n 2, 1) := by decide +kernel
theorem d_X_handOverText_19 : decode b_X_handOverText 19 = .ok (.iconst 4, 1) := by decide +kernel
theorem d_X_handOverText_20 : decode b_X_handOverText 20 = .ok (.imul, 1) := by decide +kernel
theorem d_X_handOverText_21 : decode b_X_handOverText 21 = .ok (.iload 4, 2) := by decide +kernel
theorem d_X_handOverText_23 : decode b_X_handOverText 23 = .ok (.iadd, 1) := by decide +kernel
theorem d_X_handOverText_24 : decode b_X_handOverText 24 = .ok (.aload_n 0, 1) := by decide +kernel
theorem d_X_handOverText_25 : decode b_X_handOverText 25 = .ok (.getfield 43, 3) := by decide +kernel
theorem d_X_handOverText_28 : decode b_X_handOverText 28 = .ok (.iload 4, 2) := by decide +kernel
theorem d_X_handOverText_30 : decode b_X_handOverText 30 = .ok (.laload, 1) := by decide +kernel
theorem d_X_handOverText_31 : decode b_X_handOverText 31 = .ok (.iconst 0, 1) := by decide +kernel
theorem d_X_handOverText_32 : decode b_X_handOverText 32 = .ok (.invokevirtual 217, 3) := by decide +kernel
theorem d_X_handOverText_35 : decode b_X_handOverText 35 = .ok (.iinc 4 1, 3) := by decide +kernel
theorem d_X_handOverText_38 : decode b_X_handOverText 38 = .ok (.goto (-27), 3) := by decide +kernel
theorem d_X_handOverText_41 : decode b_X_handOverText 41 = .ok (.aload_n 0, 1) := by decide +kernel
theorem d_X_handOverText_42 : decode b_X_handOverText 42 = .ok (.getfield 43, 3) := by decide +kernel
theorem d_X_handOverText_45 : decode b_X_handOverText 45 = .ok (.lconst 0, 1) := by decide +kernel
theorem d_X_handOverText_46 : decode b_X_handOverText 46 = .ok (.invokestatic 221, 3) := by decide +kernel
theorem d_X_handOverText_49 : decode b_X_handOverText 49 = .ok (.aload_n 0, 1) := by decide +kernel
theorem d_X_handOverText_50 : decode b_X_handOverText 50 = .ok (.iconst 0, 1) := by decide +kernel
theorem d_X_handOverText_51 : decode b_X_handOverText 51 = .ok (.putfield 164, 3) := by decide +kernel
theorem d_X_handOverText_54 : decode b_X_handOverText 54 = .ok (.return_, 1) := by decide +kernel
theorem d_X_post_0 : decode b_X_post 0 = .ok (.iload_n 1, 1) := by decide +kernel
theorem d_X_post_1 : decode b_X_post 1 = .ok (.invokestatic 71, 3) := by decide +kernel
theorem d_X_post_4 : decode b_X_post 4 = .ok (.ifCond .eq 31, 3) := by decide +kernel
theorem d_X_post_7 : decode b_X_post 7 = .ok (.iload_n 2, 1) := by decide +kernel
theorem d_X_post_8 : decode b_X_post 8 = .ok (.invokestatic 71, 3) := by decide +kernel
theorem d_X_post_11 : decode b_X_post 11 = .ok (.ifCond .eq 24, 3) := by decide +kernel
theorem d_X_post_14 : decode b_X_post 14 = .ok (.iload_n 3, 1) := by decide +kernel
theorem d_X_post_15 : decode b_X_post 15 = .ok (.iconst 5, 1) := by decide +kernel
theorem d_X_post_16 : decode b_X_post 16 = .ok (.invokestatic 74, 3) := by decide +kernel
theorem d_X_post_19 : decode b_X_post 19 = .ok (.ifCond .eq 16, 3) := by decide +kernel
theorem d_X_post_22 : decode b_X_post 22 = .ok (.iload 4, 2) := by decide +kernel
theorem d_X_post_24 : decode b_X_post 24 = .ok (.iconst 3, 1) := by decide +kernel
theorem d_X_post_25 : decode b_X_post 25 = .ok (.invokestatic 74, 3) := by decide +kernel
theorem d_X_post_28 : decode b_X_post 28 = .ok (.ifCond .eq 7, 3) := by decide +kernel
theorem d_X_post_31 : decode b_X_post 31 = .ok (.iconst 1, 1) := by decide +kernel
theorem d_X_post_32 : decode b_X_post 32 = .ok (.goto 4, 3) := by decide +kernel
theorem d_X_post_35 : decode b_X_post 35 = .ok (.iconst 0, 1) := by decide +kernel
theorem d_X_post_36 : decode b_X_post 36 = .ok (.invokestatic 78, 3) := by decide +kernel
theorem d_X_post_39 : decode b_X_post 39 = .ok (.aload_n 0, 1) := by decide +kernel
theorem d_X_post_40 : decode b_X_post 40 = .ok (.getfield 164, 3) := by decide +kernel
theorem d_X_post_43 : decode b_X_post 43 = .ok (.ifCond .le 7, 3) := by decide +kernel
theorem d_X_post_46 : decode b_X_post 46 = .ok (.iconst 1, 1) := by decide +kernel
theorem d_X_post_47 : decode b_X_post 47 = .ok (.goto 4, 3) := by decide +kernel
theorem d_X_post_50 : decode b_X_post 50 = .ok (.iconst 0, 1) := by decide +kernel
theorem d_X_post_51 : decode b_X_post 51 = .ok (.invokestatic 78, 3) := by decide +kernel
theorem d_X_post_54 : decode b_X_post 54 = .ok (.aload_n 0, 1) := by decide +kernel
theorem d_X_post_55 : decode b_X_post 55 = .ok (.getfield 171, 3) := by decide +kernel
theorem d_X_post_58 : decode b_X_post 58 = .ok (.bipush 16, 2) := by decide +kernel
theorem d_X_post_60 : decode b_X_post 60 = .ok (.if_icmp .eq 22, 3) := by decide +kernel
theorem d_X_post_63 : decode b_X_post 63 = .ok (.aload_n 0, 1) := by decide +kernel
theorem d_X_post_64 : decode b_X_post 64 = .ok (.getfield 22, 3) := by decide +kernel
theorem d_X_post_67 : decode b_X_post 67 = .ok (.iload_n 1, 1) := by decide +kernel
theorem d_X_post_68 : decode b_X_post 68 = .ok (.aaload, 1) := by decide +kernel
theorem d_X_post_69 : decode b_X_post 69 = .ok (.invokevirtual 174, 3) := by decide +kernel
theorem d_X_post_72 : decode b_X_post 72 = .ok (.aload_n 0, 1) := by decide +kernel
theorem d_X_post_73 : decode b_X_post 73 = .ok (.getfield 164, 3) := by decide +kernel
theorem d_X_post_76 : decode b_X_post 76 = .ok (.invokestatic 178, 3) := by decide +kernel
theorem d_X_post_79 : decode b_X_post 79 = .ok (.if_icmp .ge 11, 3) := by decide +kernel
theorem d_X_post_82 : decode b_X_post 82 = .ok (.new 90, 3) := by decide +kernel
theorem d_X_post_85 : decode b_X_post 85 = .ok (.dup, 1) := by decide +kernel
theorem d_X_post_86 : decode b_X_post 86 = .ok (.invokespecial 92, 3) := by decide +kernel
theorem d_X_post_89 : decode b_X_post 89 = .ok (.athrow, 1) := by decide +kernel
theorem d_X_post_90 : decode b_X_post 90 = .ok (.aload_n 0, 1) := by decide +kernel
theorem d_X_post_91 : decode b_X_post 91 = .ok (.getfield 171, 3) := by decide +kernel
theorem d_X_post_94 : decode b_X_post 94 = .ok (.istore 5, 2) := by decide +kernel
theorem d_X_post_96 : decode b_X_post 96 = .ok (.aload_n 0, 1) := by decide +kernel
theorem d_X_post_97 : decode b_X_post 97 = .ok (.dup, 1) := by decide +kernel
theorem d_X_post_98 : decode b_X_post 98 = .ok (.getfield 171, 3) := by decide +kernel
theorem d_X_post_101 : decode b_X_post 101 = .ok (.iconst 1, 1) := by decide +kernel
theorem d_X_post_102 : decode b_X_post 102 = .ok (.iadd, 1) := by decide +kernel
theorem d_X_post_103 : decode b_X_post 103 = .ok (.putfield 171, 3) := by decide +kernel
theorem d_X_post_106 : decode b_X_post 106 = .ok (.aload_n 0, 1) := by decide +kernel
theorem d_X_post_107 : decode b_X_post 107 = .ok (.getfield 38, 3) := by decide +kernel
theorem d_X_post_110 : decode b_X_post 110 = .ok (.iload 5, 2) := by decide +kernel
theorem d_X_post_112 : decode b_X_post 112 = .ok (.aaload, 1) := by decide +kernel
theorem d_X_post_113 : decode b_X_post 113 = .ok (.astore 6, 2) := by decide +kernel
theorem d_X_post_115 : decode b_X_post 115 = .ok (.aload 6, 2) := by decide +kernel
theorem d_X_post_117 : decode b_X_post 117 = .ok (.iload_n 1, 1) := by decide +kernel
theorem d_X_post_118 : decode b_X_post 118 = .ok (.putfield 182, 3) := by decide +kernel
theorem d_X_post_121 : decode b_X_post 121 = .ok (.aload 6, 2) := by decide +kernel
theorem d_X_post_123 : decode b_X_post 123 = .ok (.iload_n 2, 1) := by decide +kernel
theorem d_X_post_124 : decode b_X_post 124 = .ok (.putfield 185, 3) := by decide +kernel
theorem d_X_post_127 : decode b_X_post 127 = .ok (.aload 6, 2) := by decide +kernel
theorem d_X_post_129 : decode b_X_post 129 = .ok (.iload_n 3, 1) := by decide +kernel
theorem d_X_post_130 : decode b_X_post 130 = .ok (.putfield 188, 3) := by decide +kernel
theorem d_X_post_133 : decode b_X_post 133 = .ok (.aload 6, 2) := by decide +kernel
theorem d_X_post_135 : decode b_X_post 135 = .ok (.iload 4, 2) := by decide +kernel
theorem d_X_post_137 : decode b_X_post 137 = .ok (.putfield 191, 3) := by decide +kernel
theorem d_X_post_140 : decode b_X_post 140 = .ok (.aload 6, 2) := by decide +kernel
theorem d_X_post_142 : decode b_X_post 142 = .ok (.aload_n 0, 1) := by decide +kernel
theorem d_X_post_143 : decode b_X_post 143 = .ok (.getfield 194, 3) := by decide +kernel
theorem d_X_post_146 : decode b_X_post 146 = .ok (.putfield 197, 3) := by decide +kernel
theorem d_X_post_149 : decode b_X_post 149 = .ok (.aload 6, 2) := by decide +kernel
theorem d_X_post_151 : decode b_X_post 151 = .ok (.aload_n 0, 1) := by decide +kernel
theorem d_X_post_152 : decode b_X_post 152 = .ok (.aload_n 0, 1) := by decide +kernel
theorem d_X_post_153 : decode b_X_post 153 = .ok (.getfield 22, 3) := by decide +kernel
theorem d_X_post_156 : decode b_X_post 156 = .ok (.iload_n 1, 1) := by decide +kernel
theorem d_X_post_157 : decode b_X_post 157 = .ok (.aaload, 1) := by decide +kernel
theorem d_X_post_158 : decode b_X_post 158 = .ok (.getfield 107, 3) := by decide +kernel
theorem d_X_post_161 : decode b_X_post 161 = .ok (.iload_n 1, 1) := by decide +kernel
theorem d_X_post_162 : decode b_X_post 162 = .ok (.iload_n 2, 1) := by decide +kernel
theorem d_X_post_163 : decode b_X_post 163 = .ok (.aload_n 0, 1) := by decide +kernel
theorem d_X_post_164 : decode b_X_post 164 = .ok (.getfield 194, 3) := by decide +kernel
theorem d_X_post_167 : decode b_X_post 167 = .ok (.invokevirtual 111, 3) := by decide +kernel
theorem d_X_post_170 : decode b_X_post 170 = .ok (.putfield 200, 3) := by decide +kernel
theorem d_X_post_173 : decode b_X_post 173 = .ok (.aload 6, 2) := by decide +kernel
theorem d_X_post_175 : decode b_X_post 175 = .ok (.aload_n 0, 1) := by decide +kernel
theorem d_X_post_176 : decode b_X_post 176 = .ok (.getfield 164, 3) := by decide +kernel
theorem d_X_post_179 : decode b_X_post 179 = .ok (.putfield 152, 3) := by decide +kernel
theorem d_X_post_182 : decode b_X_post 182 = .ok (.aload 6, 2) := by decide +kernel
theorem d_X_post_184 : decode b_X_post 184 = .ok (.aload_n 0, 1) := by decide +kernel
theorem d_X_post_185 : decode b_X_post 185 = .ok (.getfield 43, 3) := by decide +kernel
theorem d_X_post_188 : decode b_X_post 188 = .ok (.aload_n 0, 1) := by decide +kernel
theorem d_X_post_189 : decode b_X_post 189 = .ok (.getfield 164, 3) := by decide +kernel
theorem d_X_post_192 : decode b_X_post 192 = .ok (.invokestatic 203, 3) := by decide +kernel
theorem d_X_post_195 : decode b_X_post 195 = .ok (.putfield 207, 3) := by decide +kernel
theorem d_X_post_198 : decode b_X_post 198 = .ok (.aload_n 0, 1) := by decide +kernel
theorem d_X_post_199 : decode b_X_post 199 = .ok (.aload_n 0, 1) := by decide +kernel
theorem d_X_post_200 : decode b_X_post 200 = .ok (.getfield 22, 3) := by decide +kernel
theorem d_X_post_203 : decode b_X_post 203 = .ok (.iload_n 1, 1) := by decide +kernel
theorem d_X_post_204 : decode b_X_post 204 = .ok (.aaload, 1) := by decide +kernel
theorem d_X_post_205 : decode b_X_post 205 = .ok (.iload 5, 2) := by decide +kernel
theorem d_X_post_207 : decode b_X_post 207 = .ok (.invokevirtual 210, 3) := by decide +kernel
theorem d_X_post_210 : decode b_X_post 210 = .ok (.iload_n 1, 1) := by decide +kernel
theorem d_X_post_211 : decode b_X_post 211 = .ok (.iload_n 2, 1) := by decide +kernel
theorem d_X_post_212 : decode b_X_post 212 = .ok (.if_icmp .ne 9, 3) := by decide +kernel
theorem d_X_post_215 : decode b_X_post 215 = .ok (.aload_n 0, 1) := by decide +kernel
theorem d_X_post_216 : decode b_X_post 216 = .ok (.iload 5, 2) := by decide +kernel
theorem d_X_post_218 : decode b_X_post 218 = .ok (.invokevirtual 214, 3) := by decide +kernel
theorem d_X_post_221 : decode b_X_post 221 = .ok (.iload 5, 2) := by decide +kernel
theorem d_X_post_223 : decode b_X_post 223 = .ok (.ireturn, 1) := by decide +kernel
theorem d_X_status_0 : decode b_X_status 0 = .ok (.iload_n 1, 1) := by decide +kernel
theorem d_X_status_1 : decode b_X_status 1 = .ok (.aload_n 0, 1) := by decide +kernel
theorem d_X_status_2 : decode b_X_status 2 = .ok (.getfield 171, 3) := by decide +kernel
theorem d_X_status_5 : decode b_X_status 5 = .ok (.invokestatic 74, 3) := by decide +kernel
theorem d_X_status_8 : decode b_X_status 8 = .ok (.invokestatic 78, 3) := by decide +kernel
theorem d_X_status_11 : decode b_X_status 11 = .ok (.aload_n 0, 1) := by decide +kernel
theorem d_X_status_12 : decode b_X_status 12 = .ok (.getfield 22, 3) := by decide +kernel
theorem d_X_status_15 : decode b_X_status 15 = .ok (.aload_n 0, 1) := by decide +kernel
theorem d_X_status_16 : decode b_X_status 16 = .ok (.getfield 38, 3) := by decide +kernel
theorem d_X_status_19 : decode b_X_status 19 = .ok (.iload_n 1, 1) := by decide +kernel
theorem d_X_status_20 : decode b_X_status 20 = .ok (.aaload, 1) := by decide +kernel
theorem d_X_status_21 : decode b_X_status 21 = .ok (.getfield 182, 3) := by decide +kernel
theorem d_X_status_24 : decode b_X_status 24 = .ok (.aaload, 1) := by decide +kernel
theorem d_X_status_25 : decode b_X_status 25 = .ok (.getfield 227, 3) := by decide +kernel
theorem d_X_status_28 : decode b_X_status 28 = .ok (.iload_n 1, 1) := by decide +kernel
theorem d_X_status_29 : decode b_X_status 29 = .ok (.iaload, 1) := by decide +kernel
theorem d_X_status_30 : decode b_X_status 30 = .ok (.istore_n 2, 1) := by decide +kernel
theorem d_X_status_31 : decode b_X_status 31 = .ok (.iload_n 2, 1) := by decide +kernel
theorem d_X_status_32 : decode b_X_status 32 = .ok (.ifCond .ne 19, 3) := by decide +kernel
theorem d_X_status_35 : decode b_X_status 35 = .ok (.aload_n 0, 1) := by decide +kernel
theorem d_X_status_36 : decode b_X_status 36 = .ok (.getfield 38, 3) := by decide +kernel
theorem d_X_status_39 : decode b_X_status 39 = .ok (.iload_n 1, 1) := by decide +kernel
theorem d_X_status_40 : decode b_X_status 40 = .ok (.aaload, 1) := by decide +kernel
theorem d_X_status_41 : decode b_X_status 41 = .ok (.getfield 230, 3) := by decide +kernel
theorem d_X_status_44 : decode b_X_status 44 = .ok (.ifCond .eq 7, 3) := by decide +kernel
theorem d_X_status_47 : decode b_X_status 47 = .ok (.iconst 3, 1) := by decide +kernel
theorem d_X_status_48 : decode b_X_status 48 = .ok (.goto 4, 3) := by decide +kernel
theorem d_X_status_51 : decode b_X_status 51 = .ok (.iload_n 2, 1) := by decide +kernel
theorem d_X_status_52 : decode b_X_status 52 = .ok (.ireturn, 1) := by decide +kernel
theorem d_X_custodians_0 : decode b_X_custodians 0 = .ok (.iload_n 1, 1) := by decide +kernel
theorem d_X_custodians_1 : decode b_X_custodians 1 = .ok (.aload_n 0, 1) := by decide +kernel
theorem d_X_custodians_2 : decode b_X_custodians 2 = .ok (.getfield 171, 3) := by decide +kernel
theorem d_X_custodians_5 : decode b_X_custodians 5 = .ok (.invokestatic 74, 3) := by decide +kernel
theorem d_X_custodians_8 : decode b_X_custodians 8 = .ok (.invokestatic 78, 3) := by decide +kernel
theorem d_X_custodians_11 : decode b_X_custodians 11 = .ok (.iconst 0, 1) := by decide +kernel
theorem d_X_custodians_12 : decode b_X_custodians 12 = .ok (.istore_n 2, 1) := by decide +kernel
theorem d_X_custodians_13 : decode b_X_custodians 13 = .ok (.iconst 0, 1) := by decide +kernel
theorem d_X_custodians_14 : decode b_X_custodians 14 = .ok (.istore_n 3, 1) := by decide +kernel
theorem d_X_custodians_15 : decode b_X_custodians 15 = .ok (.iload_n 3, 1) := by decide +kernel
theorem d_X_custodians_16 : decode b_X_custodians 16 = .ok (.bipush 12, 2) := by decide +kernel
theorem d_X_custodians_18 : decode b_X_custodians 18 = .ok (.if_icmp .ge 28, 3) := by decide +kernel
theorem d_X_custodians_21 : decode b_X_custodians 21 = .ok (.aload_n 0, 1) := by decide +kernel
theorem d_X_custodians_22 : decode b_X_custodians 22 = .ok (.getfield 22, 3) := by decide +kernel
theorem d_X_custodians_25 : decode b_X_custodians 25 = .ok (.iload_n 3, 1) := by decide +kernel
theorem d_X_custodians_26 : decode b_X_custodians 26 = .ok (.aaload, 1) := by decide +kernel
theorem d_X_custodians_27 : decode b_X_custodians 27 = .ok (.iload_n 1, 1) := by decide +kernel
theorem d_X_custodians_28 : decode b_X_custodians 28 = .ok (.invokevirtual 234, 3) := by decide +kernel
theorem d_X_custodians_31 : decode b_X_custodians 31 = .ok (.ifCond .le 9, 3) := by decide +kernel
theorem d_X_custodians_34 : decode b_X_custodians 34 = .ok (.iload_n 2, 1) := by decide +kernel
theorem d_X_custodians_35 : decode b_X_custodians 35 = .ok (.iconst 1, 1) := by decide +kernel
theorem d_X_custodians_36 : decode b_X_custodians 36 = .ok (.iload_n 3, 1) := by decide +kernel
theorem d_X_custodians_37 : decode b_X_custodians 37 = .ok (.ishl, 1) := by decide +kernel
theorem d_X_custodians_38 : decode b_X_custodians 38 = .ok (.ior, 1) := by decide +kernel
theorem d_X_custodians_39 : decode b_X_custodians 39 = .ok (.istore_n 2, 1) := by decide +kernel
theorem d_X_custodians_40 : decode b_X_custodians 40 = .ok (.iinc 3 1, 3) := by decide +kernel
theorem d_X_custodians_43 : decode b_X_custodians 43 = .ok (.goto (-28), 3) := by decide +kernel
theorem d_X_custodians_46 : decode b_X_custodians 46 = .ok (.iload_n 2, 1) := by decide +kernel
theorem d_X_custodians_47 : decode b_X_custodians 47 = .ok (.ireturn, 1) := by decide +kernel
theorem d_X_promise_0 : decode b_X_promise 0 = .ok (.iload_n 1, 1) := by decide +kernel
theorem d_X_promise_1 : decode b_X_promise 1 = .ok (.aload_n 0, 1) := by decide +kernel
theorem d_X_promise_2 : decode b_X_promise 2 = .ok (.getfield 171, 3) := by decide +kernel
theorem d_X_promise_5 : decode b_X_promise 5 = .ok (.invokestatic 74, 3) := by decide +kernel
theorem d_X_promise_8 : decode b_X_promise 8 = .ok (.invokestatic 78, 3) := by decide +kernel
theorem d_X_promise_11 : decode b_X_promise 11 = .ok (.aload_n 0, 1) := by decide +kernel
theorem d_X_promise_12 : decode b_X_promise 12 = .ok (.getfield 38, 3) := by decide +kernel
theorem d_X_promise_15 : decode b_X_promise 15 = .ok (.iload_n 1, 1) := by decide +kernel
theorem d_X_promise_16 : decode b_X_promise 16 = .ok (.aaload, 1) := by decide +kernel
theorem d_X_promise_17 : decode b_X_promise 17 = .ok (.getfield 200, 3) := by decide +kernel
theorem d_X_promise_20 : decode b_X_promise 20 = .ok (.ireturn, 1) := by decide +kernel
theorem d_X_dropCopies_0 : decode b_X_dropCopies 0 = .ok (.iconst 0, 1) := by decide +kernel
theorem d_X_dropCopies_1 : decode b_X_dropCopies 1 = .ok (.istore_n 3, 1) := by decide +kernel
theorem d_X_dropCopies_2 : decode b_X_dropCopies 2 = .ok (.iload_n 3, 1) := by decide +kernel
theorem d_X_dropCopies_3 : decode b_X_dropCopies 3 = .ok (.bipush 12, 2) := by decide +kernel
theorem d_X_dropCopies_5 : decode b_X_dropCopies 5 = .ok (.if_icmp .ge 51, 3) := by decide +kernel
theorem d_X_dropCopies_8 : decode b_X_dropCopies 8 = .ok (.iload_n 2, 1) := by decide +kernel
theorem d_X_dropCopies_9 : decode b_X_dropCopies 9 = .ok (.ifCond .eq 31, 3) := by decide +kernel
theorem d_X_dropCopies_12 : decode b_X_dropCopies 12 = .ok (.aload_n 0, 1) := by decide +kernel
theorem d_X_dropCopies_13 : decode b_X_dropCopies 13 = .ok (.getfield 22, 3) := by decide +kernel
theorem d_X_dropCopies_16 : decode b_X_dropCopies 16 = .ok (.iload_n 3, 1) := by decide +kernel
theorem d_X_dropCopies_17 : decode b_X_dropCopies 17 = .ok (.aaload, 1) := by decide +kernel
theorem d_X_dropCopies_18 : decode b_X_dropCopies 18 = .ok (.iload_n 1, 1) := by decide +kernel
theorem d_X_dropCopies_19 : decode b_X_dropCopies 19 = .ok (.invokevirtual 234, 3) := by decide +kernel
theorem d_X_dropCopies_22 : decode b_X_dropCopies 22 = .ok (.ifCond .le 18, 3) := by decide +kernel
theorem d_X_dropCopies_25 : decode b_X_dropCopies 25 = .ok (.aload_n 0, 1) := by decide +kernel
theorem d_X_dropCopies_26 : decode b_X_dropCopies 26 = .ok (.getfield 22, 3) := by decide +kernel
theorem d_X_dropCopies_29 : decode b_X_dropCopies 29 = .ok (.iload_n 3, 1) := by decide +kernel
theorem d_X_dropCopies_30 : decode b_X_dropCopies 30 = .ok (.aaload, 1) := by decide +kernel
theorem d_X_dropCopies_31 : decode b_X_dropCopies 31 = .ok (.dup, 1) := by decide +kernel
theorem d_X_dropCopies_32 : decode b_X_dropCopies 32 = .ok (.getfield 247, 3) := by decide +kernel
theorem d_X_dropCopies_35 : decode b_X_dropCopies 35 = .ok (.iconst 1, 1) := by decide +kernel
theorem d_X_dropCopies_36 : decode b_X_dropCopies 36 = .ok (.iadd, 1) := by decide +kernel
theorem d_X_dropCopies_37 : decode b_X_dropCopies 37 = .ok (.putfield 247, 3) := by decide +kernel
theorem d_X_dropCopies_40 : decode b_X_dropCopies 40 = .ok (.aload_n 0, 1) := by decide +kernel
theorem d_X_dropCopies_41 : decode b_X_dropCopies 41 = .ok (.getfield 22, 3) := by decide +kernel
theorem d_X_dropCopies_44 : decode b_X_dropCopies 44 = .ok (.iload_n 3, 1) := by decide +kernel
theorem d_X_dropCopies_45 : decode b_X_dropCopies 45 = .ok (.aaload, 1) := by decide +kernel
theorem d_X_dropCopies_46 : decode b_X_dropCopies 46 = .ok (.iload_n 1, 1) := by decide +kernel
theorem d_X_dropCopies_47 : decode b_X_dropCopies 47 = .ok (.invokevirtual 250, 3) := by decide +kernel
theorem d_X_dropCopies_50 : decode b_X_dropCopies 50 = .ok (.iinc 3 1, 3) := by decide +kernel
theorem d_X_dropCopies_53 : decode b_X_dropCopies 53 = .ok (.goto (-51), 3) := by decide +kernel
theorem d_X_dropCopies_56 : decode b_X_dropCopies 56 = .ok (.return_, 1) := by decide +kernel
theorem d_X_expireWhatIsDue_0 : decode b_X_expireWhatIsDue 0 = .ok (.iconst 0, 1) := by decide +kernel
theorem d_X_expireWhatIsDue_1 : decode b_X_expireWhatIsDue 1 = .ok (.istore_n 1, 1) := by decide +kernel
theorem d_X_expireWhatIsDue_2 : decode b_X_expireWhatIsDue 2 = .ok (.iload_n 1, 1) := by decide +kernel
theorem d_X_expireWhatIsDue_3 : decode b_X_expireWhatIsDue 3 = .ok (.aload_n 0, 1) := by decide +kernel
theorem d_X_expireWhatIsDue_4 : decode b_X_expireWhatIsDue 4 = .ok (.getfield 171, 3) := by decide +kernel
theorem d_X_expireWhatIsDue_7 : decode b_X_expireWhatIsDue 7 = .ok (.if_icmp .ge 78, 3) := by decide +kernel
theorem d_X_expireWhatIsDue_10 : decode b_X_expireWhatIsDue 10 = .ok (.aload_n 0, 1) := by decide +kernel
theorem d_X_expireWhatIsDue_11 : decode b_X_expireWhatIsDue 11 = .ok (.getfield 38, 3) := by decide +kernel
theorem d_X_expireWhatIsDue_14 : decode b_X_expireWhatIsDue 14 = .ok (.iload_n 1, 1) := by decide +kernel
theorem d_X_expireWhatIsDue_15 : decode b_X_expireWhatIsDue 15 = .ok (.aaload, 1) := by decide +kernel
theorem d_X_expireWhatIsDue_16 : decode b_X_expireWhatIsDue 16 = .ok (.astore_n 2, 1) := by decide +kernel
theorem d_X_expireWhatIsDue_17 : decode b_X_expireWhatIsDue 17 = .ok (.aload_n 2, 1) := by decide +kernel
theorem d_X_expireWhatIsDue_18 : decode b_X_expireWhatIsDue 18 = .ok (.getfield 240, 3) := by decide +kernel
theorem d_X_expireWhatIsDue_21 : decode b_X_expireWhatIsDue 21 = .ok (.ifCond .ne 58, 3) := by decide +kernel
theorem d_X_expireWhatIsDue_24 : decode b_X_expireWhatIsDue 24 = .ok (.aload_n 0, 1) := by decide +kernel
theorem d_X_expireWhatIsDue_25 : decode b_X_expireWhatIsDue 25 = .ok (.getfield 194, 3) := by decide +kernel
theorem d_X_expireWhatIsDue_28 : decode b_X_expireWhatIsDue 28 = .ok (.aload_n 2, 1) := by decide +kernel
theorem d_X_expireWhatIsDue_29 : decode b_X_expireWhatIsDue 29 = .ok (.getfield 197, 3) := by decide +kernel
theorem d_X_expireWhatIsDue_32 : decode b_X_expireWhatIsDue 32 = .ok (.isub, 1) := by decide +kernel
theorem d_X_expireWhatIsDue_33 : decode b_X_expireWhatIsDue 33 = .ok (.sipush 7200, 3) := by decide +kernel
theorem d_X_expireWhatIsDue_36 : decode b_X_expireWhatIsDue 36 = .ok (.if_icmp .lt 43, 3) := by decide +kernel
theorem d_X_expireWhatIsDue_39 : decode b_X_expireWhatIsDue 39 = .ok (.aload_n 2, 1) := by decide +kernel
theorem d_X_expireWhatIsDue_40 : decode b_X_expireWhatIsDue 40 = .ok (.iconst 1, 1) := by decide +kernel
theorem d_X_expireWhatIsDue_41 : decode b_X_expireWhatIsDue 41 = .ok (.putfield 240, 3) := by decide +kernel
theorem d_X_expireWhatIsDue_44 : decode b_X_expireWhatIsDue 44 = .ok (.aload_n 2, 1) := by decide +kernel
theorem d_X_expireWhatIsDue_45 : decode b_X_expireWhatIsDue 45 = .ok (.aload_n 0, 1) := by decide +kernel
theorem d_X_expireWhatIsDue_46 : decode b_X_expireWhatIsDue 46 = .ok (.getfield 22, 3) := by decide +kernel
theorem d_X_expireWhatIsDue_49 : decode b_X_expireWhatIsDue 49 = .ok (.aload_n 2, 1) := by decide +kernel
theorem d_X_expireWhatIsDue_50 : decode b_X_expireWhatIsDue 50 = .ok (.getfield 185, 3) := by decide +kernel
theorem d_X_expireWhatIsDue_53 : decode b_X_expireWhatIsDue 53 = .ok (.aaload, 1) := by decide +kernel
theorem d_X_expireWhatIsDue_54 : decode b_X_expireWhatIsDue 54 = .ok (.getfield 227, 3) := by decide +kernel
theorem d_X_expireWhatIsDue_57 : decode b_X_expireWhatIsDue 57 = .ok (.iload_n 1, 1) := by decide +kernel
theorem d_X_expireWhatIsDue_58 : decode b_X_expireWhatIsDue 58 = .ok (.iaload, 1) := by decide +kernel
theorem d_X_expireWhatIsDue_59 : decode b_X_expireWhatIsDue 59 = .ok (.ifCond .ne 7, 3) := by decide +kernel
theorem d_X_expireWhatIsDue_62 : decode b_X_expireWhatIsDue 62 = .ok (.iconst 1, 1) := by decide +kernel
theorem d_X_expireWhatIsDue_63 : decode b_X_expireWhatIsDue 63 = .ok (.goto 4, 3) := by decide +kernel
theorem d_X_expireWhatIsDue_66 : decode b_X_expireWhatIsDue 66 = .ok (.iconst 0, 1) := by decide +kernel
theorem d_X_expireWhatIsDue_67 : decode b_X_expireWhatIsDue 67 = .ok (.putfield 230, 3) := by decide +kernel
theorem d_X_expireWhatIsDue_70 : decode b_X_expireWhatIsDue 70 = .ok (.aload_n 0, 1) := by decide +kernel
theorem d_X_expireWhatIsDue_71 : decode b_X_expireWhatIsDue 71 = .ok (.iload_n 1, 1) := by decide +kernel
theorem d_X_expireWhatIsDue_72 : decode b_X_expireWhatIsDue 72 = .ok (.aload_n 2, 1) := by decide +kernel
theorem d_X_expireWhatIsDue_73 : decode b_X_expireWhatIsDue 73 = .ok (.getfield 230, 3) := by decide +kernel
theorem d_X_expireWhatIsDue_76 : decode b_X_expireWhatIsDue 76 = .ok (.invokevirtual 243, 3) := by decide +kernel
theorem d_X_expireWhatIsDue_79 : decode b_X_expireWhatIsDue 79 = .ok (.iinc 1 1, 3) := by decide +kernel
theorem d_X_expireWhatIsDue_82 : decode b_X_expireWhatIsDue 82 = .ok (.goto (-80), 3) := by decide +kernel
theorem d_X_expireWhatIsDue_85 : decode b_X_expireWhatIsDue 85 = .ok (.return_, 1) := by decide +kernel
theorem d_X_minute_0 : decode b_X_minute 0 = .ok (.iload_n 1, 1) := by decide +kernel
theorem d_X_minute_1 : decode b_X_minute 1 = .ok (.iconst 1, 1) := by decide +kernel
theorem d_X_minute_2 : decode b_X_minute 2 = .ok (.if_icmp .lt 14, 3) := by decide +kernel
theorem d_X_minute_5 : decode b_X_minute 5 = .ok (.iload_n 1, 1) := by decide +kernel
theorem d_X_minute_6 : decode b_X_minute 6 = .ok (.sipush 20000, 3) := by decide +kernel
theorem d_X_minute_9 : decode b_X_minute 9 = .ok (.if_icmp .gt 7, 3) := by decide +kernel
theorem d_X_minute_12 : decode b_X_minute 12 = .ok (.iconst 1, 1) := by decide +kernel
theorem d_X_minute_13 : decode b_X_minute 13 = .ok (.goto 4, 3) := by decide +kernel
theorem d_X_minute_16 : decode b_X_minute 16 = .ok (.iconst 0, 1) := by decide +kernel
theorem d_X_minute_17 : decode b_X_minute 17 = .ok (.invokestatic 78, 3) := by decide +kernel
theorem d_X_minute_20 : decode b_X_minute 20 = .ok (.aload_n 0, 1) := by decide +kernel
theorem d_X_minute_21 : decode b_X_minute 21 = .ok (.dup, 1) := by decide +kernel
theorem d_X_minute_22 : decode b_X_minute 22 = .ok (.getfield 194, 3) := by decide +kernel
theorem d_X_minute_25 : decode b_X_minute 25 = .ok (.iconst 1, 1) := by decide +kernel
theorem d_X_minute_26 : decode b_X_minute 26 = .ok (.iadd, 1) := by decide +kernel
theorem d_X_minute_27 : decode b_X_minute 27 = .ok (.putfield 194, 3) := by decide +kernel
theorem d_X_minute_30 : decode b_X_minute 30 = .ok (.aload_n 0, 1) := by decide +kernel
theorem d_X_minute_31 : decode b_X_minute 31 = .ok (.invokevirtual 237, 3) := by decide +kernel
theorem d_X_minute_34 : decode b_X_minute 34 = .ok (.iconst 0, 1) := by decide +kernel
theorem d_X_minute_35 : decode b_X_minute 35 = .ok (.istore_n 2, 1) := by decide +kernel
theorem d_X_minute_36 : decode b_X_minute 36 = .ok (.iload_n 2, 1) := by decide +kernel
theorem d_X_minute_37 : decode b_X_minute 37 = .ok (.aload_n 0, 1) := by decide +kernel
theorem d_X_minute_38 : decode b_X_minute 38 = .ok (.getfield 171, 3) := by decide +kernel
theorem d_X_minute_41 : decode b_X_minute 41 = .ok (.if_icmp .ge 14, 3) := by decide +kernel
theorem d_X_minute_44 : decode b_X_minute 44 = .ok (.aload_n 0, 1) := by decide +kernel
theorem d_X_minute_45 : decode b_X_minute 45 = .ok (.iload_n 2, 1) := by decide +kernel
theorem d_X_minute_46 : decode b_X_minute 46 = .ok (.invokevirtual 214, 3) := by decide +kernel
theorem d_X_minute_49 : decode b_X_minute 49 = .ok (.iinc 2 1, 3) := by decide +kernel
theorem d_X_minute_52 : decode b_X_minute 52 = .ok (.goto (-16), 3) := by decide +kernel
theorem d_X_minute_55 : decode b_X_minute 55 = .ok (.aload_n 0, 1) := by decide +kernel
theorem d_X_minute_56 : decode b_X_minute 56 = .ok (.dup, 1) := by decide +kernel
theorem d_X_minute_57 : decode b_X_minute 57 = .ok (.getfield 194, 3) := by decide +kernel
theorem d_X_minute_60 : decode b_X_minute 60 = .ok (.iload_n 1, 1) := by decide +kernel
theorem d_X_minute_61 : decode b_X_minute 61 = .ok (.iconst 1, 1) := by decide +kernel
theorem d_X_minute_62 : decode b_X_minute 62 = .ok (.isub, 1) := by decide +kernel
theorem d_X_minute_63 : decode b_X_minute 63 = .ok (.iadd, 1) := by decide +kernel
theorem d_X_minute_64 : decode b_X_minute 64 = .ok (.putfield 194, 3) := by decide +kernel
theorem d_X_minute_67 : decode b_X_minute 67 = .ok (.aload_n 0, 1) := by decide +kernel
theorem d_X_minute_68 : decode b_X_minute 68 = .ok (.invokevirtual 237, 3) := by decide +kernel
theorem d_X_minute_71 : decode b_X_minute 71 = .ok (.aload_n 0, 1) := by decide +kernel
theorem d_X_minute_72 : decode b_X_minute 72 = .ok (.getfield 194, 3) := by decide +kernel
theorem d_X_minute_75 : decode b_X_minute 75 = .ok (.ireturn, 1) := by decide +kernel
theorem d_X_shareTimetable_0 : decode b_X_shareTimetable 0 = .ok (.aload_n 0, 1) := by decide +kernel
theorem d_X_shareTimetable_1 : decode b_X_shareTimetable 1 = .ok (.getfield 107, 3) := by decide +kernel
theorem d_X_shareTimetable_4 : decode b_X_shareTimetable 4 = .ok (.aload_n 1, 1) := by decide +kernel
theorem d_X_shareTimetable_5 : decode b_X_shareTimetable 5 = .ok (.getfield 107, 3) := by decide +kernel
theorem d_X_shareTimetable_8 : decode b_X_shareTimetable 8 = .ok (.invokestatic 295, 3) := by decide +kernel
theorem d_X_shareTimetable_11 : decode b_X_shareTimetable 11 = .ok (.istore_n 2, 1) := by decide +kernel
theorem d_X_shareTimetable_12 : decode b_X_shareTimetable 12 = .ok (.aload_n 0, 1) := by decide +kernel
theorem d_X_shareTimetable_13 : decode b_X_shareTimetable 13 = .ok (.iload_n 2, 1) := by decide +kernel
theorem d_X_shareTimetable_14 : decode b_X_shareTimetable 14 = .ok (.putfield 107, 3) := by decide +kernel
theorem d_X_shareTimetable_17 : decode b_X_shareTimetable 17 = .ok (.aload_n 1, 1) := by decide +kernel
theorem d_X_shareTimetable_18 : decode b_X_shareTimetable 18 = .ok (.iload_n 2, 1) := by decide +kernel
theorem d_X_shareTimetable_19 : decode b_X_shareTimetable 19 = .ok (.putfield 107, 3) := by decide +kernel
theorem d_X_shareTimetable_22 : decode b_X_shareTimetable 22 = .ok (.return_, 1) := by decide +kernel
theorem d_X_firmer_0 : decode b_X_firmer 0 = .ok (.iload_n 0, 1) := by decide +kernel
theorem d_X_firmer_1 : decode b_X_firmer 1 = .ok (.ifCond .eq 7, 3) := by decide +kernel
theorem d_X_firmer_4 : decode b_X_firmer 4 = .ok (.iload_n 1, 1) := by decide +kernel
theorem d_X_firmer_5 : decode b_X_firmer 5 = .ok (.ifCond .ne 9, 3) := by decide +kernel
theorem d_X_firmer_8 : decode b_X_firmer 8 = .ok (.iload_n 0, 1) := by decide +kernel
theorem d_X_firmer_9 : decode b_X_firmer 9 = .ok (.iload_n 1, 1) := by decide +kernel
theorem d_X_firmer_10 : decode b_X_firmer 10 = .ok (.invokestatic 295, 3) := by decide +kernel
theorem d_X_firmer_13 : decode b_X_firmer 13 = .ok (.ireturn, 1) := by decide +kernel
theorem d_X_firmer_14 : decode b_X_firmer 14 = .ok (.iload_n 0, 1) := by decide +kernel
theorem d_X_firmer_15 : decode b_X_firmer 15 = .ok (.iconst 1, 1) := by decide +kernel
theorem d_X_firmer_16 : decode b_X_firmer 16 = .ok (.if_icmp .ne 7, 3) := by decide +kernel
theorem d_X_firmer_19 : decode b_X_firmer 19 = .ok (.iload_n 0, 1) := by decide +kernel
theorem d_X_firmer_20 : decode b_X_firmer 20 = .ok (.goto 4, 3) := by decide +kernel
theorem d_X_firmer_23 : decode b_X_firmer 23 = .ok (.iload_n 1, 1) := by decide +kernel
theorem d_X_firmer_24 : decode b_X_firmer 24 = .ok (.ireturn, 1) := by decide +kernel
theorem d_X_shareNews_0 : decode b_X_shareNews 0 = .ok (.iconst 0, 1) := by decide +kernel
theorem d_X_shareNews_1 : decode b_X_shareNews 1 = .ok (.istore_n 3, 1) := by decide +kernel
theorem d_X_shareNews_2 : decode b_X_shareNews 2 = .ok (.iload_n 3, 1) := by decide +kernel
theorem d_X_shareNews_3 : decode b_X_shareNews 3 = .ok (.aload_n 0, 1) := by decide +kernel
theorem d_X_shareNews_4 : decode b_X_shareNews 4 = .ok (.getfield 171, 3) := by decide +kernel
theorem d_X_shareNews_7 : decode b_X_shareNews 7 = .ok (.iconst 4, 1) := by decide +kernel
theorem d_X_shareNews_8 : decode b_X_shareNews 8 = .ok (.imul, 1) := by decide +kernel
theorem d_X_shareNews_9 : decode b_X_shareNews 9 = .ok (.if_icmp .ge 40, 3) := by decide +kernel
theorem d_X_shareNews_12 : decode b_X_shareNews 12 = .ok (.aload_n 1, 1) := by decide +kernel
theorem d_X_shareNews_13 : decode b_X_shareNews 13 = .ok (.getfield 300, 3) := by decide +kernel
theorem d_X_shareNews_16 : decode b_X_shareNews 16 = .ok (.iload_n 3, 1) := by decide +kernel
theorem d_X_shareNews_17 : decode b_X_shareNews 17 = .ok (.iaload, 1) := by decide +kernel
theorem d_X_shareNews_18 : decode b_X_shareNews 18 = .ok (.aload_n 2, 1) := by decide +kernel
theorem d_X_shareNews_19 : decode b_X_shareNews 19 = .ok (.getfield 300, 3) := by decide +kernel
theorem d_X_shareNews_22 : decode b_X_shareNews 22 = .ok (.iload_n 3, 1) := by decide +kernel
theorem d_X_shareNews_23 : decode b_X_shareNews 23 = .ok (.iaload, 1) := by decide +kernel
theorem d_X_shareNews_24 : decode b_X_shareNews 24 = .ok (.invokestatic 295, 3) := by decide +kernel
theorem d_X_shareNews_27 : decode b_X_shareNews 27 = .ok (.istore 4, 2) := by decide +kernel
theorem d_X_shareNews_29 : decode b_X_shareNews 29 = .ok (.aload_n 1, 1) := by decide +kernel
theorem d_X_shareNews_30 : decode b_X_shareNews 30 = .ok (.iload_n 3, 1) := by decide +kernel
theorem d_X_shareNews_31 : decode b_X_shareNews 31 = .ok (.iload 4, 2) := by decide +kernel
theorem d_X_shareNews_33 : decode b_X_shareNews 33 = .ok (.invokevirtual 303, 3) := by decide +kernel
theorem d_X_shareNews_36 : decode b_X_shareNews 36 = .ok (.aload_n 2, 1) := by decide +kernel
theorem d_X_shareNews_37 : decode b_X_shareNews 37 = .ok (.iload_n 3, 1) := by decide +kernel
theorem d_X_shareNews_38 : decode b_X_shareNews 38 = .ok (.iload 4, 2) := by decide +kernel
theorem d_X_shareNews_40 : decode b_X_shareNews 40 = .ok (.invokevirtual 303, 3) := by decide +kernel
theorem d_X_shareNews_43 : decode b_X_shareNews 43 = .ok (.iinc 3 1, 3) := by decide +kernel
theorem d_X_shareNews_46 : decode b_X_shareNews 46 = .ok (.goto (-44), 3) := by decide +kernel
theorem d_X_shareNews_49 : decode b_X_shareNews 49 = .ok (.iconst 0, 1) := by decide +kernel
theorem d_X_shareNews_50 : decode b_X_shareNews 50 = .ok (.istore_n 3, 1) := by decide +kernel
theorem d_X_shareNews_51 : decode b_X_shareNews 51 = .ok (.iload_n 3, 1) := by decide +kernel
theorem d_X_shareNews_52 : decode b_X_shareNews 52 = .ok (.aload_n 0, 1) := by decide +kernel
theorem d_X_shareNews_53 : decode b_X_shareNews 53 = .ok (.getfield 171, 3) := by decide +kernel
theorem d_X_shareNews_56 : decode b_X_shareNews 56 = .ok (.if_icmp .ge 40, 3) := by decide +kernel
theorem d_X_shareNews_59 : decode b_X_shareNews 59 = .ok (.aload_n 1, 1) := by decide +kernel
theorem d_X_shareNews_60 : decode b_X_shareNews 60 = .ok (.getfield 227, 3) := by decide +kernel
theorem d_X_shareNews_63 : decode b_X_shareNews 63 = .ok (.iload_n 3, 1) := by decide +kernel
theorem d_X_shareNews_64 : decode b_X_shareNews 64 = .ok (.iaload, 1) := by decide +kernel
theorem d_X_shareNews_65 : decode b_X_shareNews 65 = .ok (.aload_n 2, 1) := by decide +kernel
theorem d_X_shareNews_66 : decode b_X_shareNews 66 = .ok (.getfield 227, 3) := by decide +kernel
theorem d_X_shareNews_69 : decode b_X_shareNews 69 = .ok (.iload_n 3, 1) := by decide +kernel
theorem d_X_shareNews_70 : decode b_X_shareNews 70 = .ok (.iaload, 1) := by decide +kernel
theorem d_X_shareNews_71 : decode b_X_shareNews 71 = .ok (.invokestatic 306, 3) := by decide +kernel
theorem d_X_shareNews_74 : decode b_X_shareNews 74 = .ok (.istore 4, 2) := by decide +kernel
theorem d_X_shareNews_76 : decode b_X_shareNews 76 = .ok (.aload_n 1, 1) := by decide +kernel
theorem d_X_shareNews_77 : decode b_X_shareNews 77 = .ok (.iload_n 3, 1) := by decide +kernel
theorem d_X_shareNews_78 : decode b_X_shareNews 78 = .ok (.iload 4, 2) := by decide +kernel
theorem d_X_shareNews_80 : decode b_X_shareNews 80 = .ok (.invokevirtual 261, 3) := by decide +kernel
theorem d_X_shareNews_83 : decode b_X_shareNews 83 = .ok (.aload_n 2, 1) := by decide +kernel
theorem d_X_shareNews_84 : decode b_X_shareNews 84 = .ok (.iload_n 3, 1) := by decide +kernel
theorem d_X_shareNews_85 : decode b_X_shareNews 85 = .ok (.iload 4, 2) := by decide +kernel
theorem d_X_shareNews_87 : decode b_X_shareNews 87 = .ok (.invokevirtual 261, 3) := by decide +kernel
theorem d_X_shareNews_90 : decode b_X_shareNews 90 = .ok (.iinc 3 1, 3) := by decide +kernel
theorem d_X_shareNews_93 : decode b_X_shareNews 93 = .ok (.goto (-42), 3) := by decide +kernel
theorem d_X_shareNews_96 : decode b_X_shareNews 96 = .ok (.return_, 1) := by decide +kernel
theorem d_X_offerPiecesOf_0 : decode b_X_offerPiecesOf 0 = .ok (.aload_n 0, 1) := by decide +kernel
theorem d_X_offerPiecesOf_1 : decode b_X_offerPiecesOf 1 = .ok (.getfield 38, 3) := by decide +kernel
theorem d_X_offerPiecesOf_4 : decode b_X_offerPiecesOf 4 = .ok (.iload_n 1, 1) := by decide +kernel
theorem d_X_offerPiecesOf_5 : decode b_X_offerPiecesOf 5 = .ok (.aaload, 1) := by decide +kernel
theorem d_X_offerPiecesOf_6 : decode b_X_offerPiecesOf 6 = .ok (.getfield 185, 3) := by decide +kernel
theorem d_X_offerPiecesOf_9 : decode b_X_offerPiecesOf 9 = .ok (.istore 4, 2) := by decide +kernel
theorem d_X_offerPiecesOf_11 : decode b_X_offerPiecesOf 11 = .ok (.aload_n 0, 1) := by decide +kernel
theorem d_X_offerPiecesOf_12 : decode b_X_offerPiecesOf 12 = .ok (.getfield 50, 3) := by decide +kernel
theorem d_X_offerPiecesOf_15 : decode b_X_offerPiecesOf 15 = .ok (.getfield 119, 3) := by decide +kernel
theorem d_X_offerPiecesOf_18 : decode b_X_offerPiecesOf 18 = .ok (.iload 4, 2) := by decide +kernel
theorem d_X_offerPiecesOf_20 : decode b_X_offerPiecesOf 20 = .ok (.iaload, 1) := by decide +kernel
theorem d_X_offerPiecesOf_21 : decode b_X_offerPiecesOf 21 = .ok (.istore 5, 2) := by decide +kernel
theorem d_X_offerPiecesOf_23 : decode b_X_offerPiecesOf 23 = .ok (.aload_n 0, 1) := by decide +kernel
theorem d_X_offerPiecesOf_24 : decode b_X_offerPiecesOf 24 = .ok (.getfield 54, 3) := by decide +kernel
theorem d_X_offerPiecesOf_27 : decode b_X_offerPiecesOf 27 = .ok (.getfield 119, 3) := by decide +kernel
theorem d_X_offerPiecesOf_30 : decode b_X_offerPiecesOf 30 = .ok (.iload 4, 2) := by decide +kernel
theorem d_X_offerPiecesOf_32 : decode b_X_offerPiecesOf 32 = .ok (.iaload, 1) := by decide +kernel
theorem d_X_offerPiecesOf_33 : decode b_X_offerPiecesOf 33 = .ok (.istore 6, 2) := by decide +kernel
theorem d_X_offerPiecesOf_35 : decode b_X_offerPiecesOf 35 = .ok (.iload 4, 2) := by decide +kernel
theorem d_X_offerPiecesOf_37 : decode b_X_offerPiecesOf 37 = .ok (.iload_n 3, 1) := by decide +kernel
theorem d_X_offerPiecesOf_38 : decode b_X_offerPiecesOf 38 = .ok (.if_icmp .eq 10, 3) := by decide +kernel
theorem d_X_offerPiecesOf_41 : decode b_X_offerPiecesOf 41 = .ok (.iload 5, 2) := by decide +kernel
theorem d_X_offerPiecesOf_43 : decode b_X_offerPiecesOf 43 = .ok (.iload 6, 2) := by decide +kernel
theorem d_X_offerPiecesOf_45 : decode b_X_offerPiecesOf 45 = .ok (.if_icmp .ge 7, 3) := by decide +kernel
theorem d_X_offerPiecesOf_48 : decode b_X_offerPiecesOf 48 = .ok (.iconst 1, 1) := by decide +kernel
theorem d_X_offerPiecesOf_49 : decode b_X_offerPiecesOf 49 = .ok (.goto 4, 3) := by decide +kernel
theorem d_X_offerPiecesOf_52 : decode b_X_offerPiecesOf 52 = .ok (.iconst 0, 1) := by decide +kernel
theorem d_X_offerPiecesOf_53 : decode b_X_offerPiecesOf 53 = .ok (.istore 7, 2) := by decide +kernel
theorem d_X_offerPiecesOf_55 : decode b_X_offerPiecesOf 55 = .ok (.iload 4, 2) := by decide +kernel
theorem d_X_offerPiecesOf_57 : decode b_X_offerPiecesOf 57 = .ok (.iload_n 3, 1) := by decide +kernel
theorem d_X_offerPiecesOf_58 : decode b_X_offerPiecesOf 58 = .ok (.if_icmp .eq 21, 3) := by decide +kernel
theorem d_X_offerPiecesOf_61 : decode b_X_offerPiecesOf 61 = .ok (.iload 6, 2) := by decide +kernel
theorem d_X_offerPiecesOf_63 : decode b_X_offerPiecesOf 63 = .ok (.ldc 123, 2) := by decide +kernel
theorem d_X_offerPiecesOf_65 : decode b_X_offerPiecesOf 65 = .ok (.if_icmp .eq 14, 3) := by decide +kernel
theorem d_X_offerPiecesOf_68 : decode b_X_offerPiecesOf 68 = .ok (.iload 6, 2) := by decide +kernel
theorem d_X_offerPiecesOf_70 : decode b_X_offerPiecesOf 70 = .ok (.iload 5, 2) := by decide +kernel
theorem d_X_offerPiecesOf_72 : decode b_X_offerPiecesOf 72 = .ok (.if_icmp .gt 7, 3) := by decide +kernel
theorem d_X_offerPiecesOf_75 : decode b_X_offerPiecesOf 75 = .ok (.iconst 1, 1) := by decide +kernel
theorem d_X_offerPiecesOf_76 : decode b_X_offerPiecesOf 76 = .ok (.goto 4, 3) := by decide +kernel
theorem d_X_offerPiecesOf_79 : decode b_X_offerPiecesOf 79 = .ok (.iconst 0, 1) := by decide +kernel
theorem d_X_offerPiecesOf_80 : decode b_X_offerPiecesOf 80 = .ok (.istore 8, 2) := by decide +kernel
theorem d_X_offerPiecesOf_82 : decode b_X_offerPiecesOf 82 = .ok (.iload_n 1, 1) := by decide +kernel
theorem d_X_offerPiecesOf_83 : decode b_X_offerPiecesOf 83 = .ok (.iconst 4, 1) := by decide +kernel
theorem d_X_offerPiecesOf_84 : decode b_X_offerPiecesOf 84 = .ok (.imul, 1) := by decide +kernel
theorem d_X_offerPiecesOf_85 : decode b_X_offerPiecesOf 85 = .ok (.istore 9, 2) := by decide +kernel
theorem d_X_offerPiecesOf_87 : decode b_X_offerPiecesOf 87 = .ok (.iload 9, 2) := by decide +kernel
theorem d_X_offerPiecesOf_89 : decode b_X_offerPiecesOf 89 = .ok (.iload_n 1, 1) := by decide +kernel
theorem d_X_offerPiecesOf_90 : decode b_X_offerPiecesOf 90 = .ok (.iconst 1, 1) := by decide +kernel
theorem d_X_offerPiecesOf_91 : decode b_X_offerPiecesOf 91 = .ok (.iadd, 1) := by decide +kernel
theorem d_X_offerPiecesOf_92 : decode b_X_offerPiecesOf 92 = .ok (.iconst 4, 1) := by decide +kernel
theorem d_X_offerPiecesOf_93 : decode b_X_offerPiecesOf 93 = .ok (.imul, 1) := by decide +kernel
theorem d_X_offerPiecesOf_94 : decode b_X_offerPiecesOf 94 = .ok (.if_icmp .ge 65, 3) := by decide +kernel
theorem d_X_offerPiecesOf_97 : decode b_X_offerPiecesOf 97 = .ok (.iload 7, 2) := by decide +kernel
theorem d_X_offerPiecesOf_99 : decode b_X_offerPiecesOf 99 = .ok (.ifCond .eq 26, 3) := by decide +kernel
theorem d_X_offerPiecesOf_102 : decode b_X_offerPiecesOf 102 = .ok (.aload_n 0, 1) := by decide +kernel
theorem d_X_offerPiecesOf_103 : decode b_X_offerPiecesOf 103 = .ok (.getfield 22, 3) := by decide +kernel
theorem d_X_offerPiecesOf_106 : decode b_X_offerPiecesOf 106 = .ok (.iload_n 2, 1) := by decide +kernel
theorem d_X_offerPiecesOf_107 : decode b_X_offerPiecesOf 107 = .ok (.aaload, 1) := by decide +kernel
theorem d_X_offerPiecesOf_108 : decode b_X_offerPiecesOf 108 = .ok (.iload 9, 2) := by decide +kernel
theorem d_X_offerPiecesOf_110 : decode b_X_offerPiecesOf 110 = .ok (.invokevirtual 316, 3) := by decide +kernel
theorem d_X_offerPiecesOf_113 : decode b_X_offerPiecesOf 113 = .ok (.ifCond .eq 12, 3) := by decide +kernel
theorem d_X_offerPiecesOf_116 : decode b_X_offerPiecesOf 116 = .ok (.aload_n 0, 1) := by decide +kernel
theorem d_X_offerPiecesOf_117 : decode b_X_offerPiecesOf 117 = .ok (.getfield 60, 3) := by decide +kernel
theorem d_X_offerPiecesOf_120 : decode b_X_offerPiecesOf 120 = .ok (.iload 9, 2) := by decide +kernel
theorem d_X_offerPiecesOf_122 : decode b_X_offerPiecesOf 122 = .ok (.invokevirtual 319, 3) := by decide +kernel
theorem d_X_offerPiecesOf_125 : decode b_X_offerPiecesOf 125 = .ok (.iload 8, 2) := by decide +kernel
theorem d_X_offerPiecesOf_127 : decode b_X_offerPiecesOf 127 = .ok (.ifCond .eq 26, 3) := by decide +kernel
theorem d_X_offerPiecesOf_130 : decode b_X_offerPiecesOf 130 = .ok (.aload_n 0, 1) := by decide +kernel
theorem d_X_offerPiecesOf_131 : decode b_X_offerPiecesOf 131 = .ok (.getfield 22, 3) := by decide +kernel
theorem d_X_offerPiecesOf_134 : decode b_X_offerPiecesOf 134 = .ok (.iload_n 3, 1) := by decide +kernel
theorem d_X_offerPiecesOf_135 : decode b_X_offerPiecesOf 135 = .ok (.aaload, 1) := by decide +kernel
theorem d_X_offerPiecesOf_136 : decode b_X_offerPiecesOf 136 = .ok (.iload 9, 2) := by decide +kernel
theorem d_X_offerPiecesOf_138 : decode b_X_offerPiecesOf 138 = .ok (.invokevirtual 316, 3) := by decide +kernel
theorem d_X_offerPiecesOf_141 : decode b_X_offerPiecesOf 141 = .ok (.ifCond .eq 12, 3) := by decide +kernel
theorem d_X_offerPiecesOf_144 : decode b_X_offerPiecesOf 144 = .ok (.aload_n 0, 1) := by decide +kernel
theorem d_X_offerPiecesOf_145 : decode b_X_offerPiecesOf 145 = .ok (.getfield 64, 3) := by decide +kernel
theorem d_X_offerPiecesOf_148 : decode b_X_offerPiecesOf 148 = .ok (.iload 9, 2) := by decide +kernel
theorem d_X_offerPiecesOf_150 : decode b_X_offerPiecesOf 150 = .ok (.invokevirtual 319, 3) := by decide +kernel
theorem d_X_offerPiecesOf_153 : decode b_X_offerPiecesOf 153 = .ok (.iinc 9 1, 3) := by decide +kernel
theorem d_X_offerPiecesOf_156 : decode b_X_offerPiecesOf 156 = .ok (.goto (-69), 3) := by decide +kernel
theorem d_X_offerPiecesOf_159 : decode b_X_offerPiecesOf 159 = .ok (.return_, 1) := by decide +kernel
theorem d_X_settleOffers_0 : decode b_X_settleOffers 0 = .ok (.aload_n 0, 1) := by decide +kernel
theorem d_X_settleOffers_1 : decode b_X_settleOffers 1 = .ok (.getfield 16, 3) := by decide +kernel
theorem d_X_settleOffers_4 : decode b_X_settleOffers 4 = .ok (.aload_n 0, 1) := by decide +kernel
theorem d_X_settleOffers_5 : decode b_X_settleOffers 5 = .ok (.getfield 22, 3) := by decide +kernel
theorem d_X_settleOffers_8 : decode b_X_settleOffers 8 = .ok (.iload_n 1, 1) := by decide +kernel
theorem d_X_settleOffers_9 : decode b_X_settleOffers 9 = .ok (.aaload, 1) := by decide +kernel
theorem d_X_settleOffers_10 : decode b_X_settleOffers 10 = .ok (.getfield 107, 3) := by decide +kernel
theorem d_X_settleOffers_13 : decode b_X_settleOffers 13 = .ok (.aaload, 1) := by decide +kernel
theorem d_X_settleOffers_14 : decode b_X_settleOffers 14 = .ok (.astore_n 3, 1) := by decide +kernel
theorem d_X_settleOffers_15 : decode b_X_settleOffers 15 = .ok (.aload_n 0, 1) := by decide +kernel
theorem d_X_settleOffers_16 : decode b_X_settleOffers 16 = .ok (.getfield 50, 3) := by decide +kernel
theorem d_X_settleOffers_19 : decode b_X_settleOffers 19 = .ok (.aload_n 3, 1) := by decide +kernel
theorem d_X_settleOffers_20 : decode b_X_settleOffers 20 = .ok (.iload_n 2, 1) := by decide +kernel
theorem d_X_settleOffers_21 : decode b_X_settleOffers 21 = .ok (.aload_n 0, 1) := by decide +kernel
theorem d_X_settleOffers_22 : decode b_X_settleOffers 22 = .ok (.getfield 194, 3) := by decide +kernel
theorem d_X_settleOffers_25 : decode b_X_settleOffers 25 = .ok (.iconst 1, 1) := by decide +kernel
theorem d_X_settleOffers_26 : decode b_X_settleOffers 26 = .ok (.iadd, 1) := by decide +kernel
theorem d_X_settleOffers_27 : decode b_X_settleOffers 27 = .ok (.invokevirtual 115, 3) := by decide +kernel
theorem d_X_settleOffers_30 : decode b_X_settleOffers 30 = .ok (.aload_n 0, 1) := by decide +kernel
theorem d_X_settleOffers_31 : decode b_X_settleOffers 31 = .ok (.getfield 54, 3) := by decide +kernel
theorem d_X_settleOffers_34 : decode b_X_settleOffers 34 = .ok (.aload_n 3, 1) := by decide +kernel
theorem d_X_settleOffers_35 : decode b_X_settleOffers 35 = .ok (.iload_n 1, 1) := by decide +kernel
theorem d_X_settleOffers_36 : decode b_X_settleOffers 36 = .ok (.aload_n 0, 1) := by decide +kernel
theorem d_X_settleOffers_37 : decode b_X_settleOffers 37 = .ok (.getfield 194, 3) := by decide +kernel
theorem d_X_settleOffers_40 : decode b_X_settleOffers 40 = .ok (.invokevirtual 309, 3) := by decide +kernel
theorem d_X_settleOffers_43 : decode b_X_settleOffers 43 = .ok (.aload_n 0, 1) := by decide +kernel
theorem d_X_settleOffers_44 : decode b_X_settleOffers 44 = .ok (.getfield 60, 3) := by decide +kernel
theorem d_X_settleOffers_47 : decode b_X_settleOffers 47 = .ok (.iconst 0, 1) := by decide +kernel
theorem d_X_settleOffers_48 : decode b_X_settleOffers 48 = .ok (.putfield 312, 3) := by decide +kernel
theorem d_X_settleOffers_51 : decode b_X_settleOffers 51 = .ok (.aload_n 0, 1) := by decide +kernel
theorem d_X_settleOffers_52 : decode b_X_settleOffers 52 = .ok (.getfield 64, 3) := by decide +kernel
theorem d_X_settleOffers_55 : decode b_X_settleOffers 55 = .ok (.iconst 0, 1) := by decide +kernel
theorem d_X_settleOffers_56 : decode b_X_settleOffers 56 = .ok (.putfield 312, 3) := by decide +kernel
theorem d_X_settleOffers_59 : decode b_X_settleOffers 59 = .ok (.iconst 0, 1) := by decide +kernel
theorem d_X_settleOffers_60 : decode b_X_settleOffers 60 = .ok (.istore 4, 2) := by decide +kernel
theorem d_X_settleOffers_62 : decode b_X_settleOffers 62 = .ok (.iload 4, 2) := by decide +kernel
theorem d_X_settleOffers_64 : decode b_X_settleOffers 64 = .ok (.iconst 3, 1) := by decide +kernel
theorem d_X_settleOffers_65 : decode b_X_settleOffers 65 = .ok (.if_icmp .ge 50, 3) := by decide +kernel
theorem d_X_settleOffers_68 : decode b_X_settleOffers 68 = .ok (.iconst 0, 1) := by decide +kernel
theorem d_X_settleOffers_69 : decode b_X_settleOffers 69 = .ok (.istore 5, 2) := by decide +kernel
theorem d_X_settleOffers_71 : decode b_X_settleOffers 71 = .ok (.iload 5, 2) := by decide +kernel
theorem d_X_settleOffers_73 : decode b_X_settleOffers 73 = .ok (.aload_n 0, 1) := by decide +kernel
theorem d_X_settleOffers_74 : decode b_X_settleOffers 74 = .ok (.getfield 171, 3) := by decide +kernel
theorem d_X_settleOffers_77 : decode b_X_settleOffers 77 = .ok (.if_icmp .ge 32, 3) := by decide +kernel
theorem d_X_settleOffers_80 : decode b_X_settleOffers 80 = .ok (.aload_n 0, 1) := by decide +kernel
theorem d_X_settleOffers_81 : decode b_X_settleOffers 81 = .ok (.getfield 38, 3) := by decide +kernel
theorem d_X_settleOffers_84 : decode b_X_settleOffers 84 = .ok (.iload 5, 2) := by decide +kernel
theorem d_X_settleOffers_86 : decode b_X_settleOffers 86 = .ok (.aaload, 1) := by decide +kernel
theorem d_X_settleOffers_87 : decode b_X_settleOffers 87 = .ok (.getfield 191, 3) := by decide +kernel
theorem d_X_settleOffers_90 : decode b_X_settleOffers 90 = .ok (.iload 4, 2) := by decide +kernel
theorem d_X_settleOffers_92 : decode b_X_settleOffers 92 = .ok (.if_icmp .ne 11, 3) := by decide +kernel
theorem d_X_settleOffers_95 : decode b_X_settleOffers 95 = .ok (.aload_n 0, 1) := by decide +kernel
theorem d_X_settleOffers_96 : decode b_X_settleOffers 96 = .ok (.iload 5, 2) := by decide +kernel
theorem d_X_settleOffers_98 : decode b_X_settleOffers 98 = .ok (.iload_n 1, 1) := by decide +kernel
theorem d_X_settleOffers_99 : decode b_X_settleOffers 99 = .ok (.iload_n 2, 1) := by decide +kernel
theorem d_X_settleOffers_100 : decode b_X_settleOffers 100 = .ok (.invokevirtual 313, 3) := by decide +kernel
theorem d_X_settleOffers_103 : decode b_X_settleOffers 103 = .ok (.iinc 5 1, 3) := by decide +kernel
theorem d_X_settleOffers_106 : decode b_X_settleOffers 106 = .ok (.goto (-35), 3) := by decide +kernel
theorem d_X_settleOffers_109 : decode b_X_settleOffers 109 = .ok (.iinc 4 1, 3) := by decide +kernel
theorem d_X_settleOffers_112 : decode b_X_settleOffers 112 = .ok (.goto (-50), 3) := by decide +kernel
theorem d_X_settleOffers_115 : decode b_X_settleOffers 115 = .ok (.return_, 1) := by decide +kernel
theorem d_X_movePiece_0 : decode b_X_movePiece 0 = .ok (.aload_n 2, 1) := by decide +kernel
theorem d_X_movePiece_1 : decode b_X_movePiece 1 = .ok (.iload_n 0, 1) := by decide +kernel
theorem d_X_movePiece_2 : decode b_X_movePiece 2 = .ok (.invokevirtual 316, 3) := by decide +kernel
theorem d_X_movePiece_5 : decode b_X_movePiece 5 = .ok (.ifCond .eq 5, 3) := by decide +kernel
theorem d_X_movePiece_8 : decode b_X_movePiece 8 = .ok (.iconst 0, 1) := by decide +kernel
theorem d_X_movePiece_9 : decode b_X_movePiece 9 = .ok (.ireturn, 1) := by decide +kernel
theorem d_X_movePiece_10 : decode b_X_movePiece 10 = .ok (.aload_n 2, 1) := by decide +kernel
theorem d_X_movePiece_11 : decode b_X_movePiece 11 = .ok (.invokevirtual 174, 3) := by decide +kernel
theorem d_X_movePiece_14 : decode b_X_movePiece 14 = .ok (.ifCond .ne 15, 3) := by decide +kernel
theorem d_X_movePiece_17 : decode b_X_movePiece 17 = .ok (.aload_n 2, 1) := by decide +kernel
theorem d_X_movePiece_18 : decode b_X_movePiece 18 = .ok (.dup, 1) := by decide +kernel
theorem d_X_movePiece_19 : decode b_X_movePiece 19 = .ok (.getfield 329, 3) := by decide +kernel
theorem d_X_movePiece_22 : decode b_X_movePiece 22 = .ok (.iconst 1, 1) := by decide +kernel
theorem d_X_movePiece_23 : decode b_X_movePiece 23 = .ok (.iadd, 1) := by decide +kernel
theorem d_X_movePiece_24 : decode b_X_movePiece 24 = .ok (.putfield 329, 3) := by decide +kernel
theorem d_X_movePiece_27 : decode b_X_movePiece 27 = .ok (.iconst 0, 1) := by decide +kernel
theorem d_X_movePiece_28 : decode b_X_movePiece 28 = .ok (.ireturn, 1) := by decide +kernel
theorem d_X_movePiece_29 : decode b_X_movePiece 29 = .ok (.aload_n 1, 1) := by decide +kernel
theorem d_X_movePiece_30 : decode b_X_movePiece 30 = .ok (.getfield 332, 3) := by decide +kernel
theorem d_X_movePiece_33 : decode b_X_movePiece 33 = .ok (.iload_n 0, 1) := by decide +kernel
theorem d_X_movePiece_34 : decode b_X_movePiece 34 = .ok (.iaload, 1) := by decide +kernel
theorem d_X_movePiece_35 : decode b_X_movePiece 35 = .ok (.iconst 1, 1) := by decide +kernel
theorem d_X_movePiece_36 : decode b_X_movePiece 36 = .ok (.iadd, 1) := by decide +kernel
theorem d_X_movePiece_37 : decode b_X_movePiece 37 = .ok (.istore_n 3, 1) := by decide +kernel
theorem d_X_movePiece_38 : decode b_X_movePiece 38 = .ok (.aload_n 2, 1) := by decide +kernel
theorem d_X_movePiece_39 : decode b_X_movePiece 39 = .ok (.iload_n 0, 1) := by decide +kernel
theorem d_X_movePiece_40 : decode b_X_movePiece 40 = .ok (.aload_n 1, 1) := by decide +kernel
theorem d_X_movePiece_41 : decode b_X_movePiece 41 = .ok (.getfield 253, 3) := by decide +kernel
theorem d_X_movePiece_44 : decode b_X_movePiece 44 = .ok (.iload_n 0, 1) := by decide +kernel
theorem d_X_movePiece_45 : decode b_X_movePiece 45 = .ok (.laload, 1) := by decide +kernel
theorem d_X_movePiece_46 : decode b_X_movePiece 46 = .ok (.iload_n 3, 1) := by decide +kernel
theorem d_X_movePiece_47 : decode b_X_movePiece 47 = .ok (.invokevirtual 217, 3) := by decide +kernel
theorem d_X_movePiece_50 : decode b_X_movePiece 50 = .ok (.aload_n 1, 1) := by decide +kernel
theorem d_X_movePiece_51 : decode b_X_movePiece 51 = .ok (.iload_n 0, 1) := by decide +kernel
theorem d_X_movePiece_52 : decode b_X_movePiece 52 = .ok (.iload_n 3, 1) := by decide +kernel
theorem d_X_movePiece_53 : decode b_X_movePiece 53 = .ok (.invokevirtual 303, 3) := by decide +kernel
theorem d_X_movePiece_56 : decode b_X_movePiece 56 = .ok (.iconst 1, 1) := by decide +kernel
theorem d_X_movePiece_57 : decode b_X_movePiece 57 = .ok (.ireturn, 1) := by decide +kernel
theorem d_X_moveOffered_0 : decode b_X_moveOffered 0 = .ok (.iconst 0, 1) := by decide +kernel
theorem d_X_moveOffered_1 : decode b_X_moveOffered 1 = .ok (.istore 5, 2) := by decide +kernel
theorem d_X_moveOffered_3 : decode b_X_moveOffered 3 = .ok (.iconst 0, 1) := by decide +kernel
theorem d_X_moveOffered_4 : decode b_X_moveOffered 4 = .ok (.istore 6, 2) := by decide +kernel
theorem d_X_moveOffered_6 : decode b_X_moveOffered 6 = .ok (.iload 6, 2) := by decide +kernel
theorem d_X_moveOffered_8 : decode b_X_moveOffered 8 = .ok (.aload_n 1, 1) := by decide +kernel
theorem d_X_moveOffered_9 : decode b_X_moveOffered 9 = .ok (.getfield 312, 3) := by decide +kernel
theorem d_X_moveOffered_12 : decode b_X_moveOffered 12 = .ok (.if_icmp .ge 83, 3) := by decide +kernel
theorem d_X_moveOffered_15 : decode b_X_moveOffered 15 = .ok (.iload 5, 2) := by decide +kernel
theorem d_X_moveOffered_17 : decode b_X_moveOffered 17 = .ok (.iload 4, 2) := by decide +kernel
theorem d_X_moveOffered_19 : decode b_X_moveOffered 19 = .ok (.if_icmp .ge 76, 3) := by decide +kernel
theorem d_X_moveOffered_22 : decode b_X_moveOffered 22 = .ok (.aload_n 1, 1) := by decide +kernel
theorem d_X_moveOffered_23 : decode b_X_moveOffered 23 = .ok (.getfield 322, 3) := by decide +kernel
theorem d_X_moveOffered_26 : decode b_X_moveOffered 26 = .ok (.iload 6, 2) := by decide +kernel
theorem d_X_moveOffered_28 : decode b_X_moveOffered 28 = .ok (.iaload, 1) := by decide +kernel
theorem d_X_moveOffered_29 : decode b_X_moveOffered 29 = .ok (.istore 7, 2) := by decide +kernel
theorem d_X_moveOffered_31 : decode b_X_moveOffered 31 = .ok (.iload 7, 2) := by decide +kernel
theorem d_X_moveOffered_33 : decode b_X_moveOffered 33 = .ok (.aload_n 0, 1) := by decide +kernel
theorem d_X_moveOffered_34 : decode b_X_moveOffered 34 = .ok (.getfield 22, 3) := by decide +kernel
theorem d_X_moveOffered_37 : decode b_X_moveOffered 37 = .ok (.iload_n 2, 1) := by decide +kernel
theorem d_X_moveOffered_38 : decode b_X_moveOffered 38 = .ok (.aaload, 1) := by decide +kernel
theorem d_X_moveOffered_39 : decode b_X_moveOffered 39 = .ok (.aload_n 0, 1) := by decide +kernel
theorem d_X_moveOffered_40 : decode b_X_moveOffered 40 = .ok (.getfield 22, 3) := by decide +kernel
theorem d_X_moveOffered_43 : decode b_X_moveOffered 43 = .ok (.iload_n 3, 1) := by decide +kernel
theorem d_X_moveOffered_44 : decode b_X_moveOffered 44 = .ok (.aaload, 1) := by decide +kernel
theorem d_X_moveOffered_45 : decode b_X_moveOffered 45 = .ok (.invokestatic 325, 3) := by decide +kernel
theorem d_X_moveOffered_48 : decode b_X_moveOffered 48 = .ok (.ifCond .eq 41, 3) := by decide +kernel
theorem d_X_moveOffered_51 : decode b_X_moveOffered 51 = .ok (.iinc 5 1, 3) := by decide +kernel
theorem d_X_moveOffered_54 : decode b_X_moveOffered 54 = .ok (.aload_n 0, 1) := by decide +kernel
theorem d_X_moveOffered_55 : decode b_X_moveOffered 55 = .ok (.iload_n 2, 1) := by decide +kernel
theorem d_X_moveOffered_56 : decode b_X_moveOffered 56 = .ok (.putfield 272, 3) := by decide +kernel
theorem d_X_moveOffered_59 : decode b_X_moveOffered 59 = .ok (.aload_n 0, 1) := by decide +kernel
theorem d_X_moveOffered_60 : decode b_X_moveOffered 60 = .ok (.iload 7, 2) := by decide +kernel
theorem d_X_moveOffered_62 : decode b_X_moveOffered 62 = .ok (.putfield 275, 3) := by decide +kernel
theorem d_X_moveOffered_65 : decode b_X_moveOffered 65 = .ok (.aload_n 0, 1) := by decide +kernel
theorem d_X_moveOffered_66 : decode b_X_moveOffered 66 = .ok (.getfield 38, 3) := by decide +kernel
theorem d_X_moveOffered_69 : decode b_X_moveOffered 69 = .ok (.iload 7, 2) := by decide +kernel
theorem d_X_moveOffered_71 : decode b_X_moveOffered 71 = .ok (.iconst 4, 1) := by decide +kernel
theorem d_X_moveOffered_72 : decode b_X_moveOffered 72 = .ok (.idiv, 1) := by decide +kernel
theorem d_X_moveOffered_73 : decode b_X_moveOffered 73 = .ok (.aaload, 1) := by decide +kernel
theorem d_X_moveOffered_74 : decode b_X_moveOffered 74 = .ok (.getfield 185, 3) := by decide +kernel
theorem d_X_moveOffered_77 : decode b_X_moveOffered 77 = .ok (.iload_n 3, 1) := by decide +kernel
theorem d_X_moveOffered_78 : decode b_X_moveOffered 78 = .ok (.if_icmp .ne 11, 3) := by decide +kernel
theorem d_X_moveOffered_81 : decode b_X_moveOffered 81 = .ok (.aload_n 0, 1) := by decide +kernel
theorem d_X_moveOffered_82 : decode b_X_moveOffered 82 = .ok (.iload 7, 2) := by decide +kernel
theorem d_X_moveOffered_84 : decode b_X_moveOffered 84 = .ok (.iconst 4, 1) := by decide +kernel
theorem d_X_moveOffered_85 : decode b_X_moveOffered 85 = .ok (.idiv, 1) := by decide +kernel
theorem d_X_moveOffered_86 : decode b_X_moveOffered 86 = .ok (.invokevirtual 214, 3) := by decide +kernel
theorem d_X_moveOffered_89 : decode b_X_moveOffered 89 = .ok (.iinc 6 1, 3) := by decide +kernel
theorem d_X_moveOffered_92 : decode b_X_moveOffered 92 = .ok (.goto (-86), 3) := by decide +kernel
theorem d_X_moveOffered_95 : decode b_X_moveOffered 95 = .ok (.iload 5, 2) := by decide +kernel
theorem d_X_moveOffered_97 : decode b_X_moveOffered 97 = .ok (.ireturn, 1) := by decide +kernel
theorem d_X_hold_0 : decode b_X_hold 0 = .ok (.aload_n 0, 1) := by decide +kernel
theorem d_X_hold_1 : decode b_X_hold 1 = .ok (.getfield 22, 3) := by decide +kernel
theorem d_X_hold_4 : decode b_X_hold 4 = .ok (.iload_n 1, 1) := by decide +kernel
theorem d_X_hold_5 : decode b_X_hold 5 = .ok (.aaload, 1) := by decide +kernel
theorem d_X_hold_6 : decode b_X_hold 6 = .ok (.aload_n 0, 1) := by decide +kernel
theorem d_X_hold_7 : decode b_X_hold 7 = .ok (.getfield 22, 3) := by decide +kernel
theorem d_X_hold_10 : decode b_X_hold 10 = .ok (.iload_n 2, 1) := by decide +kernel
theorem d_X_hold_11 : decode b_X_hold 11 = .ok (.aaload, 1) := by decide +kernel
theorem d_X_hold_12 : decode b_X_hold 12 = .ok (.invokestatic 281, 3) := by decide +kernel
theorem d_X_hold_15 : decode b_X_hold 15 = .ok (.aload_n 0, 1) := by decide +kernel
theorem d_X_hold_16 : decode b_X_hold 16 = .ok (.aload_n 0, 1) := by decide +kernel
theorem d_X_hold_17 : decode b_X_hold 17 = .ok (.getfield 22, 3) := by decide +kernel
theorem d_X_hold_20 : decode b_X_hold 20 = .ok (.iload_n 1, 1) := by decide +kernel
theorem d_X_hold_21 : decode b_X_hold 21 = .ok (.aaload, 1) := by decide +kernel
theorem d_X_hold_22 : decode b_X_hold 22 = .ok (.aload_n 0, 1) := by decide +kernel
theorem d_X_hold_23 : decode b_X_hold 23 = .ok (.getfield 22, 3) := by decide +kernel
theorem d_X_hold_26 : decode b_X_hold 26 = .ok (.iload_n 2, 1) := by decide +kernel
theorem d_X_hold_27 : decode b_X_hold 27 = .ok (.aaload, 1) := by decide +kernel
theorem d_X_hold_28 : decode b_X_hold 28 = .ok (.invokevirtual 285, 3) := by decide +kernel
theorem d_X_hold_31 : decode b_X_hold 31 = .ok (.aload_n 0, 1) := by decide +kernel
theorem d_X_hold_32 : decode b_X_hold 32 = .ok (.iload_n 1, 1) := by decide +kernel
theorem d_X_hold_33 : decode b_X_hold 33 = .ok (.iload_n 2, 1) := by decide +kernel
theorem d_X_hold_34 : decode b_X_hold 34 = .ok (.invokevirtual 288, 3) := by decide +kernel
theorem d_X_hold_37 : decode b_X_hold 37 = .ok (.aload_n 0, 1) := by decide +kernel
theorem d_X_hold_38 : decode b_X_hold 38 = .ok (.aload_n 0, 1) := by decide +kernel
theorem d_X_hold_39 : decode b_X_hold 39 = .ok (.getfield 60, 3) := by decide +kernel
theorem d_X_hold_42 : decode b_X_hold 42 = .ok (.iload_n 1, 1) := by decide +kernel
theorem d_X_hold_43 : decode b_X_hold 43 = .ok (.iload_n 2, 1) := by decide +kernel
theorem d_X_hold_44 : decode b_X_hold 44 = .ok (.iload_n 3, 1) := by decide +kernel
theorem d_X_hold_45 : decode b_X_hold 45 = .ok (.invokevirtual 291, 3) := by decide +kernel
theorem d_X_hold_48 : decode b_X_hold 48 = .ok (.istore 4, 2) := by decide +kernel
theorem d_X_hold_50 : decode b_X_hold 50 = .ok (.iload 4, 2) := by decide +kernel
theorem d_X_hold_52 : decode b_X_hold 52 = .ok (.aload_n 0, 1) := by decide +kernel
theorem d_X_hold_53 : decode b_X_hold 53 = .ok (.aload_n 0, 1) := by decide +kernel
theorem d_X_hold_54 : decode b_X_hold 54 = .ok (.getfield 64, 3) := by decide +kernel
theorem d_X_hold_57 : decode b_X_hold 57 = .ok (.iload_n 2, 1) := by decide +kernel
theorem d_X_hold_58 : decode b_X_hold 58 = .ok (.iload_n 1, 1) := by decide +kernel
theorem d_X_hold_59 : decode b_X_hold 59 = .ok (.iload_n 3, 1) := by decide +kernel
theorem d_X_hold_60 : decode b_X_hold 60 = .ok (.invokevirtual 291, 3) := by decide +kernel
theorem d_X_hold_63 : decode b_X_hold 63 = .ok (.iadd, 1) := by decide +kernel
theorem d_X_hold_64 : decode b_X_hold 64 = .ok (.ireturn, 1) := by decide +kernel
theorem d_X_meet_0 : decode b_X_meet 0 = .ok (.iload_n 1, 1) := by decide +kernel
theorem d_X_meet_1 : decode b_X_meet 1 = .ok (.invokestatic 67, 3) := by decide +kernel
theorem d_X_meet_4 : decode b_X_meet 4 = .ok (.ifCond .eq 23, 3) := by decide +kernel
theorem d_X_meet_7 : decode b_X_meet 7 = .ok (.iload_n 2, 1) := by decide +kernel
theorem d_X_meet_8 : decode b_X_meet 8 = .ok (.invokestatic 71, 3) := by decide +kernel
theorem d_X_meet_11 : decode b_X_meet 11 = .ok (.ifCond .eq 16, 3) := by decide +kernel
theorem d_X_meet_14 : decode b_X_meet 14 = .ok (.iload_n 3, 1) := by decide +kernel
theorem d_X_meet_15 : decode b_X_meet 15 = .ok (.bipush 41, 2) := by decide +kernel
theorem d_X_meet_17 : decode b_X_meet 17 = .ok (.invokestatic 74, 3) := by decide +kernel
theorem d_X_meet_20 : decode b_X_meet 20 = .ok (.ifCond .eq 7, 3) := by decide +kernel
theorem d_X_meet_23 : decode b_X_meet 23 = .ok (.iconst 1, 1) := by decide +kernel
theorem d_X_meet_24 : decode b_X_meet 24 = .ok (.goto 4, 3) := by decide +kernel
theorem d_X_meet_27 : decode b_X_meet 27 = .ok (.iconst 0, 1) := by decide +kernel
theorem d_X_meet_28 : decode b_X_meet 28 = .ok (.invokestatic 78, 3) := by decide +kernel
theorem d_X_meet_31 : decode b_X_meet 31 = .ok (.aload_n 0, 1) := by decide +kernel
theorem d_X_meet_32 : decode b_X_meet 32 = .ok (.iload_n 1, 1) := by decide +kernel
theorem d_X_meet_33 : decode b_X_meet 33 = .ok (.iload_n 2, 1) := by decide +kernel
theorem d_X_meet_34 : decode b_X_meet 34 = .ok (.iload_n 3, 1) := by decide +kernel
theorem d_X_meet_35 : decode b_X_meet 35 = .ok (.invokevirtual 268, 3) := by decide +kernel
theorem d_X_meet_38 : decode b_X_meet 38 = .ok (.ireturn, 1) := by decide +kernel
theorem d_X_breakOff_0 : decode b_X_breakOff 0 = .ok (.iload_n 1, 1) := by decide +kernel
theorem d_X_breakOff_1 : decode b_X_breakOff 1 = .ok (.invokestatic 67, 3) := by decide +kernel
theorem d_X_breakOff_4 : decode b_X_breakOff 4 = .ok (.ifCond .eq 23, 3) := by decide +kernel
theorem d_X_breakOff_7 : decode b_X_breakOff 7 = .ok (.iload_n 2, 1) := by decide +kernel
theorem d_X_breakOff_8 : decode b_X_breakOff 8 = .ok (.invokestatic 71, 3) := by decide +kernel
theorem d_X_breakOff_11 : decode b_X_breakOff 11 = .ok (.ifCond .eq 16, 3) := by decide +kernel
theorem d_X_breakOff_14 : decode b_X_breakOff 14 = .ok (.iload_n 3, 1) := by decide +kernel
theorem d_X_breakOff_15 : decode b_X_breakOff 15 = .ok (.bipush 41, 2) := by decide +kernel
theorem d_X_breakOff_17 : decode b_X_breakOff 17 = .ok (.invokestatic 74, 3) := by decide +kernel
theorem d_X_breakOff_20 : decode b_X_breakOff 20 = .ok (.ifCond .eq 7, 3) := by decide +kernel
theorem d_X_breakOff_23 : decode b_X_breakOff 23 = .ok (.iconst 1, 1) := by decide +kernel
theorem d_X_breakOff_24 : decode b_X_breakOff 24 = .ok (.goto 4, 3) := by decide +kernel
theorem d_X_breakOff_27 : decode b_X_breakOff 27 = .ok (.iconst 0, 1) := by decide +kernel
theorem d_X_breakOff_28 : decode b_X_breakOff 28 = .ok (.invokestatic 78, 3) := by decide +kernel
theorem d_X_breakOff_31 : decode b_X_breakOff 31 = .ok (.aload_n 0, 1) := by decide +kernel
theorem d_X_breakOff_32 : decode b_X_breakOff 32 = .ok (.iload_n 1, 1) := by decide +kernel
theorem d_X_breakOff_33 : decode b_X_breakOff 33 = .ok (.iload_n 2, 1) := by decide +kernel
theorem d_X_breakOff_34 : decode b_X_breakOff 34 = .ok (.iload_n 3, 1) := by decide +kernel
theorem d_X_breakOff_35 : decode b_X_breakOff 35 = .ok (.invokevirtual 268, 3) := by decide +kernel
theorem d_X_breakOff_38 : decode b_X_breakOff 38 = .ok (.istore 4, 2) := by decide +kernel
theorem d_X_breakOff_40 : decode b_X_breakOff 40 = .ok (.iload 4, 2) := by decide +kernel
theorem d_X_breakOff_42 : decode b_X_breakOff 42 = .ok (.ifCond .le 19, 3) := by decide +kernel
theorem d_X_breakOff_45 : decode b_X_breakOff 45 = .ok (.aload_n 0, 1) := by decide +kernel
theorem d_X_breakOff_46 : decode b_X_breakOff 46 = .ok (.getfield 22, 3) := by decide +kernel
theorem d_X_breakOff_49 : decode b_X_breakOff 49 = .ok (.aload_n 0, 1) := by decide +kernel
theorem d_X_breakOff_50 : decode b_X_breakOff 50 = .ok (.getfield 272, 3) := by decide +kernel
theorem d_X_breakOff_53 : decode b_X_breakOff 53 = .ok (.aaload, 1) := by decide +kernel
theorem d_X_breakOff_54 : decode b_X_breakOff 54 = .ok (.aload_n 0, 1) := by decide +kernel
theorem d_X_breakOff_55 : decode b_X_breakOff 55 = .ok (.getfield 275, 3) := by decide +kernel
theorem d_X_breakOff_58 : decode b_X_breakOff 58 = .ok (.invokevirtual 278, 3) := by decide +kernel
theorem d_X_breakOff_61 : decode b_X_breakOff 61 = .ok (.iload 4, 2) := by decide +kernel
theorem d_X_breakOff_63 : decode b_X_breakOff 63 = .ok (.ireturn, 1) := by decide +kernel
theorem d_X_isStore_0 : decode b_X_isStore 0 = .ok (.iload_n 0, 1) := by decide +kernel
theorem d_X_isStore_1 : decode b_X_isStore 1 = .ok (.bipush 12, 2) := by decide +kernel
theorem d_X_isStore_3 : decode b_X_isStore 3 = .ok (.invokestatic 74, 3) := by decide +kernel
theorem d_X_isStore_6 : decode b_X_isStore 6 = .ok (.ireturn, 1) := by decide +kernel
theorem d_X_reboot_0 : decode b_X_reboot 0 = .ok (.iload_n 1, 1) := by decide +kernel
theorem d_X_reboot_1 : decode b_X_reboot 1 = .ok (.invokestatic 335, 3) := by decide +kernel
theorem d_X_reboot_4 : decode b_X_reboot 4 = .ok (.invokestatic 78, 3) := by decide +kernel
theorem d_X_reboot_7 : decode b_X_reboot 7 = .ok (.aload_n 0, 1) := by decide +kernel
theorem d_X_reboot_8 : decode b_X_reboot 8 = .ok (.getfield 22, 3) := by decide +kernel
theorem d_X_reboot_11 : decode b_X_reboot 11 = .ok (.iload_n 1, 1) := by decide +kernel
theorem d_X_reboot_12 : decode b_X_reboot 12 = .ok (.aaload, 1) := by decide +kernel
theorem d_X_reboot_13 : decode b_X_reboot 13 = .ok (.astore_n 2, 1) := by decide +kernel
theorem d_X_reboot_14 : decode b_X_reboot 14 = .ok (.aload_n 2, 1) := by decide +kernel
theorem d_X_reboot_15 : decode b_X_reboot 15 = .ok (.iconst 0, 1) := by decide +kernel
theorem d_X_reboot_16 : decode b_X_reboot 16 = .ok (.putfield 107, 3) := by decide +kernel
theorem d_X_reboot_19 : decode b_X_reboot 19 = .ok (.aload_n 2, 1) := by decide +kernel
theorem d_X_reboot_20 : decode b_X_reboot 20 = .ok (.invokevirtual 338, 3) := by decide +kernel
theorem d_X_reboot_23 : decode b_X_reboot 23 = .ok (.iconst 0, 1) := by decide +kernel
theorem d_X_reboot_24 : decode b_X_reboot 24 = .ok (.istore_n 3, 1) := by decide +kernel
theorem d_X_reboot_25 : decode b_X_reboot 25 = .ok (.iload_n 3, 1) := by decide +kernel
theorem d_X_reboot_26 : decode b_X_reboot 26 = .ok (.aload_n 0, 1) := by decide +kernel
theorem d_X_reboot_27 : decode b_X_reboot 27 = .ok (.getfield 171, 3) := by decide +kernel
theorem d_X_reboot_30 : decode b_X_reboot 30 = .ok (.if_icmp .ge 42, 3) := by decide +kernel
theorem d_X_reboot_33 : decode b_X_reboot 33 = .ok (.aload_n 0, 1) := by decide +kernel
theorem d_X_reboot_34 : decode b_X_reboot 34 = .ok (.getfield 38, 3) := by decide +kernel
theorem d_X_reboot_37 : decode b_X_reboot 37 = .ok (.iload_n 3, 1) := by decide +kernel
theorem d_X_reboot_38 : decode b_X_reboot 38 = .ok (.aaload, 1) := by decide +kernel
theorem d_X_reboot_39 : decode b_X_reboot 39 = .ok (.getfield 185, 3) := by decide +kernel
theorem d_X_reboot_42 : decode b_X_reboot 42 = .ok (.iload_n 1, 1) := by decide +kernel
theorem d_X_reboot_43 : decode b_X_reboot 43 = .ok (.if_icmp .eq 23, 3) := by decide +kernel
theorem d_X_reboot_46 : decode b_X_reboot 46 = .ok (.aload_n 0, 1) := by decide +kernel
theorem d_X_reboot_47 : decode b_X_reboot 47 = .ok (.getfield 38, 3) := by decide +kernel
theorem d_X_reboot_50 : decode b_X_reboot 50 = .ok (.iload_n 3, 1) := by decide +kernel
theorem d_X_reboot_51 : decode b_X_reboot 51 = .ok (.aaload, 1) := by decide +kernel
theorem d_X_reboot_52 : decode b_X_reboot 52 = .ok (.getfield 182, 3) := by decide +kernel
theorem d_X_reboot_55 : decode b_X_reboot 55 = .ok (.iload_n 1, 1) := by decide +kernel
theorem d_X_reboot_56 : decode b_X_reboot 56 = .ok (.if_icmp .eq 10, 3) := by decide +kernel
theorem d_X_reboot_59 : decode b_X_reboot 59 = .ok (.aload_n 2, 1) := by decide +kernel
theorem d_X_reboot_60 : decode b_X_reboot 60 = .ok (.getfield 227, 3) := by decide +kernel
theorem d_X_reboot_63 : decode b_X_reboot 63 = .ok (.iload_n 3, 1) := by decide +kernel
theorem d_X_reboot_64 : decode b_X_reboot 64 = .ok (.iconst 0, 1) := by decide +kernel
theorem d_X_reboot_65 : decode b_X_reboot 65 = .ok (.iastore, 1) := by decide +kernel
theorem d_X_reboot_66 : decode b_X_reboot 66 = .ok (.iinc 3 1, 3) := by decide +kernel
theorem d_X_reboot_69 : decode b_X_reboot 69 = .ok (.goto (-44), 3) := by decide +kernel
theorem d_X_reboot_72 : decode b_X_reboot 72 = .ok (.return_, 1) := by decide +kernel
theorem d_X_spoil_0 : decode b_X_spoil 0 = .ok (.iload_n 1, 1) := by decide +kernel
theorem d_X_spoil_1 : decode b_X_spoil 1 = .ok (.invokestatic 335, 3) := by decide +kernel
theorem d_X_spoil_4 : decode b_X_spoil 4 = .ok (.ifCond .eq 18, 3) := by decide +kernel
theorem d_X_spoil_7 : decode b_X_spoil 7 = .ok (.iload_n 2, 1) := by decide +kernel
theorem d_X_spoil_8 : decode b_X_spoil 8 = .ok (.aload_n 0, 1) := by decide +kernel
theorem d_X_spoil_9 : decode b_X_spoil 9 = .ok (.getfield 171, 3) := by decide +kernel
theorem d_X_spoil_12 : decode b_X_spoil 12 = .ok (.invokestatic 74, 3) := by decide +kernel
theorem d_X_spoil_15 : decode b_X_spoil 15 = .ok (.ifCond .eq 7, 3) := by decide +kernel
theorem d_X_spoil_18 : decode b_X_spoil 18 = .ok (.iconst 1, 1) := by decide +kernel
theorem d_X_spoil_19 : decode b_X_spoil 19 = .ok (.goto 4, 3) := by decide +kernel
theorem d_X_spoil_22 : decode b_X_spoil 22 = .ok (.iconst 0, 1) := by decide +kernel
theorem d_X_spoil_23 : decode b_X_spoil 23 = .ok (.invokestatic 78, 3) := by decide +kernel
theorem d_X_spoil_26 : decode b_X_spoil 26 = .ok (.aload_n 0, 1) := by decide +kernel
theorem d_X_spoil_27 : decode b_X_spoil 27 = .ok (.getfield 38, 3) := by decide +kernel
theorem d_X_spoil_30 : decode b_X_spoil 30 = .ok (.iload_n 2, 1) := by decide +kernel
theorem d_X_spoil_31 : decode b_X_spoil 31 = .ok (.aaload, 1) := by decide +kernel
theorem d_X_spoil_32 : decode b_X_spoil 32 = .ok (.getfield 152, 3) := by decide +kernel
theorem d_X_spoil_35 : decode b_X_spoil 35 = .ok (.istore 6, 2) := by decide +kernel
theorem d_X_spoil_37 : decode b_X_spoil 37 = .ok (.iload_n 3, 1) := by decide +kernel
theorem d_X_spoil_38 : decode b_X_spoil 38 = .ok (.iload 6, 2) := by decide +kernel
theorem d_X_spoil_40 : decode b_X_spoil 40 = .ok (.invokestatic 178, 3) := by decide +kernel
theorem d_X_spoil_43 : decode b_X_spoil 43 = .ok (.invokestatic 74, 3) := by decide +kernel
theorem d_X_spoil_46 : decode b_X_spoil 46 = .ok (.invokestatic 78, 3) := by decide +kernel
theorem d_X_spoil_49 : decode b_X_spoil 49 = .ok (.iload 4, 2) := by decide +kernel
theorem d_X_spoil_51 : decode b_X_spoil 51 = .ok (.bipush 8, 2) := by decide +kernel
theorem d_X_spoil_53 : decode b_X_spoil 53 = .ok (.iload 6, 2) := by decide +kernel
theorem d_X_spoil_55 : decode b_X_spoil 55 = .ok (.iload_n 3, 1) := by decide +kernel
theorem d_X_spoil_56 : decode b_X_spoil 56 = .ok (.bipush 8, 2) := by decide +kernel
theorem d_X_spoil_58 : decode b_X_spoil 58 = .ok (.imul, 1) := by decide +kernel
theorem d_X_spoil_59 : decode b_X_spoil 59 = .ok (.isub, 1) := by decide +kernel
theorem d_X_spoil_60 : decode b_X_spoil 60 = .ok (.invokestatic 341, 3) := by decide +kernel
theorem d_X_spoil_63 : decode b_X_spoil 63 = .ok (.invokestatic 74, 3) := by decide +kernel
theorem d_X_spoil_66 : decode b_X_spoil 66 = .ok (.invokestatic 78, 3) := by decide +kernel
theorem d_X_spoil_69 : decode b_X_spoil 69 = .ok (.aload_n 0, 1) := by decide +kernel
theorem d_X_spoil_70 : decode b_X_spoil 70 = .ok (.getfield 22, 3) := by decide +kernel
theorem d_X_spoil_73 : decode b_X_spoil 73 = .ok (.iload_n 1, 1) := by decide +kernel
theorem d_X_spoil_74 : decode b_X_spoil 74 = .ok (.aaload, 1) := by decide +kernel
theorem d_X_spoil_75 : decode b_X_spoil 75 = .ok (.astore 7, 2) := by decide +kernel
theorem d_X_spoil_77 : decode b_X_spoil 77 = .ok (.iload_n 2, 1) := by decide +kernel
theorem d_X_spoil_78 : decode b_X_spoil 78 = .ok (.iconst 4, 1) := by decide +kernel
theorem d_X_spoil_79 : decode b_X_spoil 79 = .ok (.imul, 1) := by decide +kernel
theorem d_X_spoil_80 : decode b_X_spoil 80 = .ok (.iload_n 3, 1) := by decide +kernel
theorem d_X_spoil_81 : decode b_X_spoil 81 = .ok (.iadd, 1) := by decide +kernel
theorem d_X_spoil_82 : decode b_X_spoil 82 = .ok (.istore 8, 2) := by decide +kernel
theorem d_X_spoil_84 : decode b_X_spoil 84 = .ok (.aload 7, 2) := by decide +kernel
theorem d_X_spoil_86 : decode b_X_spoil 86 = .ok (.iload 8, 2) := by decide +kernel
theorem d_X_spoil_88 : decode b_X_spoil 88 = .ok (.invokevirtual 316, 3) := by decide +kernel
theorem d_X_spoil_91 : decode b_X_spoil 91 = .ok (.ifCond .ne 11, 3) := by decide +kernel
theorem d_X_spoil_94 : decode b_X_spoil 94 = .ok (.new 344, 3) := by decide +kernel
theorem d_X_spoil_97 : decode b_X_spoil 97 = .ok (.dup, 1) := by decide +kernel
theorem d_X_spoil_98 : decode b_X_spoil 98 = .ok (.invokespecial 346, 3) := by decide +kernel
theorem d_X_spoil_101 : decode b_X_spoil 101 = .ok (.athrow, 1) := by decide +kernel
theorem d_X_spoil_102 : decode b_X_spoil 102 = .ok (.aload 7, 2) := by decide +kernel
theorem d_X_spoil_104 : decode b_X_spoil 104 = .ok (.getfield 253, 3) := by decide +kernel
theorem d_X_spoil_107 : decode b_X_spoil 107 = .ok (.iload 8, 2) := by decide +kernel
theorem d_X_spoil_109 : decode b_X_spoil 109 = .ok (.dup2, 1) := by decide +kernel
theorem d_X_spoil_110 : decode b_X_spoil 110 = .ok (.laload, 1) := by decide +kernel
theorem d_X_spoil_111 : decode b_X_spoil 111 = .ok (.iload 5, 2) := by decide +kernel
theorem d_X_spoil_113 : decode b_X_spoil 113 = .ok (.iload 4, 2) := by decide +kernel
theorem d_X_spoil_115 : decode b_X_spoil 115 = .ok (.invokestatic 167, 3) := by decide +kernel
theorem d_X_spoil_118 : decode b_X_spoil 118 = .ok (.lxor, 1) := by decide +kernel
theorem d_X_spoil_119 : decode b_X_spoil 119 = .ok (.lastore, 1) := by decide +kernel
theorem d_X_spoil_120 : decode b_X_spoil 120 = .ok (.aload 7, 2) := by decide +kernel
theorem d_X_spoil_122 : decode b_X_spoil 122 = .ok (.getfield 253, 3) := by decide +kernel
theorem d_X_spoil_125 : decode b_X_spoil 125 = .ok (.iload 8, 2) := by decide +kernel
theorem d_X_spoil_127 : decode b_X_spoil 127 = .ok (.laload, 1) := by decide +kernel
theorem d_X_spoil_128 : decode b_X_spoil 128 = .ok (.iload 4, 2) := by decide +kernel
theorem d_X_spoil_130 : decode b_X_spoil 130 = .ok (.invokestatic 158, 3) := by decide +kernel
theorem d_X_spoil_133 : decode b_X_spoil 133 = .ok (.ireturn, 1) := by decide +kernel
theorem d_X_store_0 : decode b_X_store 0 = .ok (.iload_n 1, 1) := by decide +kernel
theorem d_X_store_1 : decode b_X_store 1 = .ok (.invokestatic 335, 3) := by decide +kernel
theorem d_X_store_4 : decode b_X_store 4 = .ok (.ifCond .eq 15, 3) := by decide +kernel
theorem d_X_store_7 : decode b_X_store 7 = .ok (.iload_n 2, 1) := by decide +kernel
theorem d_X_store_8 : decode b_X_store 8 = .ok (.iconst 4, 1) := by decide +kernel
theorem d_X_store_9 : decode b_X_store 9 = .ok (.invokestatic 74, 3) := by decide +kernel
theorem d_X_store_12 : decode b_X_store 12 = .ok (.ifCond .eq 7, 3) := by decide +kernel
theorem d_X_store_15 : decode b_X_store 15 = .ok (.iconst 1, 1) := by decide +kernel
theorem d_X_store_16 : decode b_X_store 16 = .ok (.goto 4, 3) := by decide +kernel
theorem d_X_store_19 : decode b_X_store 19 = .ok (.iconst 0, 1) := by decide +kernel
theorem d_X_store_20 : decode b_X_store 20 = .ok (.invokestatic 78, 3) := by decide +kernel
theorem d_X_store_23 : decode b_X_store 23 = .ok (.aload_n 0, 1) := by decide +kernel
theorem d_X_store_24 : decode b_X_store 24 = .ok (.getfield 22, 3) := by decide +kernel
theorem d_X_store_27 : decode b_X_store 27 = .ok (.iload_n 1, 1) := by decide +kernel
theorem d_X_store_28 : decode b_X_store 28 = .ok (.aaload, 1) := by decide +kernel
theorem d_X_store_29 : decode b_X_store 29 = .ok (.astore_n 3, 1) := by decide +kernel
theorem d_X_store_30 : decode b_X_store 30 = .ok (.iload_n 2, 1) := by decide +kernel
theorem d_X_store_31 : decode b_X_store 31 = .ok (.tableswitch 40 0 2 #[25, 30, 35], 25) := by decide +kernel
theorem d_X_store_56 : decode b_X_store 56 = .ok (.aload_n 3, 1) := by decide +kernel
theorem d_X_store_57 : decode b_X_store 57 = .ok (.invokevirtual 174, 3) := by decide +kernel
theorem d_X_store_60 : decode b_X_store 60 = .ok (.ireturn, 1) := by decide +kernel
theorem d_X_store_61 : decode b_X_store 61 = .ok (.aload_n 3, 1) := by decide +kernel
theorem d_X_store_62 : decode b_X_store 62 = .ok (.getfield 107, 3) := by decide +kernel
theorem d_X_store_65 : decode b_X_store 65 = .ok (.ireturn, 1) := by decide +kernel
theorem d_X_store_66 : decode b_X_store 66 = .ok (.aload_n 3, 1) := by decide +kernel
theorem d_X_store_67 : decode b_X_store 67 = .ok (.getfield 247, 3) := by decide +kernel
theorem d_X_store_70 : decode b_X_store 70 = .ok (.ireturn, 1) := by decide +kernel
theorem d_X_store_71 : decode b_X_store 71 = .ok (.aload_n 3, 1) := by decide +kernel
theorem d_X_store_72 : decode b_X_store 72 = .ok (.getfield 329, 3) := by decide +kernel
theorem d_X_store_75 : decode b_X_store 75 = .ok (.ireturn, 1) := by decide +kernel
end
section
def f_B_fits (i0 : Nat) (x1 : Int32) (s : Mem) : RR :=
  mm_gf s 16 i0 2 fun v1 =>
  mm_gf s 16 i0 3 fun v7 =>
  if v7 < (v1 + x1) then (
    mm_rz ((0 : Int32)) s
  ) else (
    mm_rz ((1 : Int32)) s
  )
set_option maxRecDepth 100000 in
set_option maxHeartbeats 4000000 in
theorem c_B_fits {l : Launch} {K : KK} (i0 : Nat) (x1 : Int32) (h0 : i0 < 24) (s : Mem) (o : Oc) (q : Mem) (h : f_B_fits i0 x1 s = some (o, q)) : Ct l K y_B_fits b_B_fits 2 (some .boolean) 0 0 [.ref (aa K 16 i0), .int x1] s o q := by
  refine Ct_of (own := "VillageMail$Box") (L := [(0, _), (1, _)]) (by decide +kernel) rfl (Nat.le_of_ble_eq_true rfl) rfl (fun Γ G E => ?_)
  unfold f_B_fits at h
  refine ww_aload_n 0 G d_B_fits_0 rfl rfl ?_
  refine ww_getf G fs_B_19 h0 d_B_fits_1 h (fun v1 h => ?_)
  refine ww_iload_n 1 G d_B_fits_4 rfl rfl ?_
  refine ww_iadd G d_B_fits_5 ?_
  refine ww_aload_n 0 G d_B_fits_6 rfl rfl ?_
  refine ww_getf G fs_B_15 h0 d_B_fits_7 h (fun v7 h => ?_)
  refine ww_icmpgt (tgt := 17) G d_B_fits_10 (by decide) h (fun h => ?_) (fun h => ?_)
  · skip
    refine ww_iconst (v := (0 : Int32)) G d_B_fits_17 ic_0 ?_
    exact ww_zret G E d_B_fits_18 h
  · skip
    refine ww_iconst (v := (1 : Int32)) G d_B_fits_13 ic_1 ?_
    refine ww_goto (tgt := 18) G d_B_fits_14 (by decide) ?_
    exact ww_zret G E d_B_fits_18 h
def f_B_put (i0 : Nat) (x1 : Int32) (x2 : Int32) (s : Mem) : RR :=
  mm_gf s 16 i0 1 fun v5 =>
  mm_st s 17 i0 16 v5 x1 fun s9 =>
  mm_gf s9 16 i0 1 fun v12 =>
  mm_pf s9 16 i0 1 (v12 + ((1 : Int32))) fun s17 =>
  mm_gf s17 16 i0 2 fun v22 =>
  mm_pf s17 16 i0 2 (v22 + x2) fun s27 =>
  mm_rv s27
set_option maxRecDepth 100000 in
set_option maxHeartbeats 4000000 in
theorem c_B_put {l : Launch} {K : KK} (i0 : Nat) (x1 : Int32) (x2 : Int32) (h0 : i0 < 24) (s : Mem) (o : Oc) (q : Mem) (h : f_B_put i0 x1 x2 s = some (o, q)) : Ct l K y_B_put b_B_put 3 none 0 0 [.ref (aa K 16 i0), .int x1, .int x2] s o q := by
  refine Ct_of (own := "VillageMail$Box") (L := [(0, _), (1, _), (2, _)]) (by decide +kernel) rfl (Nat.le_of_ble_eq_true rfl) rfl (fun Γ G E => ?_)
  unfold f_B_put at h
  refine ww_aload_n 0 G d_B_put_0 rfl rfl ?_
  refine ww_getr G fs_B_9 h0 d_B_put_1 ?_
  refine ww_aload_n 0 G d_B_put_4 rfl rfl ?_
  refine ww_getf G fs_B_22 h0 d_B_put_5 h (fun v5 h => ?_)
  refine ww_iload_n 1 G d_B_put_8 rfl rfl ?_
  refine ww_iastore G ar_17 h0 d_B_put_9 h (fun s9 h => ?_)
  refine ww_aload_n 0 G d_B_put_10 rfl rfl ?_
  refine ww_dup G d_B_put_11 rfl ?_
  refine ww_getf G fs_B_22 h0 d_B_put_12 h (fun v12 h => ?_)
  refine ww_iconst (v := (1 : Int32)) G d_B_put_15 ic_1 ?_
  refine ww_iadd G d_B_put_16 ?_
  refine ww_putf G fs_B_22 h0 d_B_put_17 h (fun s17 h => ?_)
  refine ww_aload_n 0 G d_B_put_20 rfl rfl ?_
  refine ww_dup G d_B_put_21 rfl ?_
  refine ww_getf G fs_B_19 h0 d_B_put_22 h (fun v22 h => ?_)
  refine ww_iload_n 2 G d_B_put_25 rfl rfl ?_
  refine ww_iadd G d_B_put_26 ?_
  refine ww_putf G fs_B_19 h0 d_B_put_27 h (fun s27 h => ?_)
  exact ww_vret G E d_B_put_30 h
def lp_B_takeOut_22 (i0 : Nat) (k : Mem → RR) : Nat → Int32 → Mem → RR
  | 0, _, _ => none
  | n + 1, x3, s =>
    mm_gf s 16 i0 1 fun v24 =>
    if v24 ≤ x3 then (
      k s
    ) else (
      mm_ld s 17 i0 16 (x3 + ((1 : Int32))) fun v42 =>
      mm_st s 17 i0 16 x3 v42 fun s43 =>
      lp_B_takeOut_22 i0 k n (x3 + (1 : Int32)) s43
    )
set_option maxRecDepth 100000 in
set_option maxHeartbeats 4000000 in
theorem lp_B_takeOut_22_ok {K : KK} {Γ : Cx} {o : Oc} {q : Mem} (i0 : Nat) (h0 : i0 < 24) (k : Mem → RR) (G : Good K Γ b_B_takeOut "VillageMail$Box" 4 0 0) (E : Ends K Γ none o q)
    (Kx : ∀  (s : Mem), k s = some (o, q) → WW K Γ 0 s 50 [] []) :
    ∀ (n : Nat) (x3 : Int32) (s : Mem), lp_B_takeOut_22 i0 k n x3 s = some (o, q) → WW K Γ 0 s 22 [(0, .ref (aa K 16 i0)), (3, .int x3)] [] := by
  intro n
  induction n with
  | zero => intro _ _ h; exact nomatch h
  | succ n ih =>
    intro x3 s h
    unfold lp_B_takeOut_22 at h
    refine ww_iload_n 1 G d_B_takeOut_22 rfl rfl ?_
    refine ww_aload_n 0 G d_B_takeOut_23 rfl rfl ?_
    refine ww_getf G fs_B_22 h0 d_B_takeOut_24 h (fun v24 h => ?_)
    refine ww_icmpge (tgt := 50) G d_B_takeOut_27 (by decide) h (fun h => ?_) (fun h => ?_)
    · skip
      refine ww_sub [] rfl ?_
      exact Kx  _ h
    · skip
      refine ww_aload_n 0 G d_B_takeOut_30 rfl rfl ?_
      refine ww_getr G fs_B_9 h0 d_B_takeOut_31 ?_
      refine ww_iload_n 1 G d_B_takeOut_34 rfl rfl ?_
      refine ww_aload_n 0 G d_B_takeOut_35 rfl rfl ?_
      refine ww_getr G fs_B_9 h0 d_B_takeOut_36 ?_
      refine ww_iload_n 1 G d_B_takeOut_39 rfl rfl ?_
      refine ww_iconst (v := (1 : Int32)) G d_B_takeOut_40 ic_1 ?_
      refine ww_iadd G d_B_takeOut_41 ?_
      refine ww_iaload G ar_17 h0 d_B_takeOut_42 h (fun v42 h => ?_)
      refine ww_iastore G ar_17 h0 d_B_takeOut_43 h (fun s43 h => ?_)
      refine ww_iinc 1 (L' := [(3, _), (0, _)]) G d_B_takeOut_44 rfl ic_1 (by decide) rfl ?_
      refine ww_goto (tgt := 22) G d_B_takeOut_47 (by decide) ?_
      refine ww_sub [1, 0] rfl ?_
      exact ih _ _ h
def f_B_takeOut (i0 : Nat) (x1 : Int32) (x2 : Int32) (s : Mem) : RR :=
  mm_gf s 16 i0 1 fun v2 =>
  mm_pf s 16 i0 1 (v2 - ((1 : Int32))) fun s7 =>
  mm_gf s7 16 i0 2 fun v12 =>
  mm_pf s7 16 i0 2 (v12 - x2) fun s17 =>
  mm_lp (fun kk => lp_B_takeOut_22 i0 kk FU x1 s17) fun s22 =>
  mm_rv s22
set_option maxRecDepth 100000 in
set_option maxHeartbeats 4000000 in
theorem c_B_takeOut {l : Launch} {K : KK} (i0 : Nat) (x1 : Int32) (x2 : Int32) (h0 : i0 < 24) (s : Mem) (o : Oc) (q : Mem) (h : f_B_takeOut i0 x1 x2 s = some (o, q)) : Ct l K y_B_takeOut b_B_takeOut 4 none 0 0 [.ref (aa K 16 i0), .int x1, .int x2] s o q := by
  refine Ct_of (own := "VillageMail$Box") (L := [(0, _), (1, _), (2, _)]) (by decide +kernel) rfl (Nat.le_of_ble_eq_true rfl) rfl (fun Γ G E => ?_)
  unfold f_B_takeOut at h
  refine ww_aload_n 0 G d_B_takeOut_0 rfl rfl ?_
  refine ww_dup G d_B_takeOut_1 rfl ?_
  refine ww_getf G fs_B_22 h0 d_B_takeOut_2 h (fun v2 h => ?_)
  refine ww_iconst (v := (1 : Int32)) G d_B_takeOut_5 ic_1 ?_
  refine ww_isub G d_B_takeOut_6 ?_
  refine ww_putf G fs_B_22 h0 d_B_takeOut_7 h (fun s7 h => ?_)
  refine ww_aload_n 0 G d_B_takeOut_10 rfl rfl ?_
  refine ww_dup G d_B_takeOut_11 rfl ?_
  refine ww_getf G fs_B_19 h0 d_B_takeOut_12 h (fun v12 h => ?_)
  refine ww_iload_n 2 G d_B_takeOut_15 rfl rfl ?_
  refine ww_isub G d_B_takeOut_16 ?_
  refine ww_putf G fs_B_19 h0 d_B_takeOut_17 h (fun s17 h => ?_)
  refine ww_iload_n 1 G d_B_takeOut_20 rfl rfl ?_
  refine ww_istore_n (L' := [(3, _), (0, _), (1, _), (2, _)]) G d_B_takeOut_21 rfl (by decide) rfl ?_
  refine ww_sub [1, 0] rfl ?_
  refine lp_B_takeOut_22_ok i0 h0 _ G E (fun s22 h => ?_) FU _ _ h
  exact ww_vret G E d_B_takeOut_50 h
def f_C_toggle (i0 : Nat) (x1 : Int32) (x2 : Int32) (s : Mem) : RR :=
  mm_ld s 15 i0 2 x1 fun v6 =>
  mm_st s 15 i0 2 x1 (v6 ^^^ (mm_ishl ((1 : Int32)) x2)) fun s11 =>
  mm_ld s11 15 i0 2 x1 fun v17 =>
  if ¬ ((mm_ishr v17 x2) &&& ((1 : Int32))) = ((1 : Int32)) then (
    mm_rz ((0 : Int32)) s11
  ) else (
    mm_rz ((1 : Int32)) s11
  )
set_option maxRecDepth 100000 in
set_option maxHeartbeats 4000000 in
theorem c_C_toggle {l : Launch} {K : KK} (i0 : Nat) (x1 : Int32) (x2 : Int32) (h0 : i0 < 8) (s : Mem) (o : Oc) (q : Mem) (h : f_C_toggle i0 x1 x2 s = some (o, q)) : Ct l K y_C_toggle b_C_toggle 3 (some .boolean) 0 0 [.ref (aa K 13 i0), .int x1, .int x2] s o q := by
  refine Ct_of (own := "VillageMail$Boxes") (L := [(0, _), (1, _), (2, _)]) (by decide +kernel) rfl (Nat.le_of_ble_eq_true rfl) rfl (fun Γ G E => ?_)
  unfold f_C_toggle at h
  refine ww_aload_n 0 G d_C_toggle_0 rfl rfl ?_
  refine ww_getr G fs_C_18 h0 d_C_toggle_1 ?_
  refine ww_iload_n 1 G d_C_toggle_4 rfl rfl ?_
  refine ww_dup2 G d_C_toggle_5 rfl rfl ?_
  refine ww_iaload G ar_15 h0 d_C_toggle_6 h (fun v6 h => ?_)
  refine ww_iconst (v := (1 : Int32)) G d_C_toggle_7 ic_1 ?_
  refine ww_iload_n 2 G d_C_toggle_8 rfl rfl ?_
  refine ww_ishl G d_C_toggle_9 ?_
  refine ww_ixor G d_C_toggle_10 ?_
  refine ww_iastore G ar_15 h0 d_C_toggle_11 h (fun s11 h => ?_)
  refine ww_aload_n 0 G d_C_toggle_12 rfl rfl ?_
  refine ww_getr G fs_C_18 h0 d_C_toggle_13 ?_
  refine ww_iload_n 1 G d_C_toggle_16 rfl rfl ?_
  refine ww_iaload G ar_15 h0 d_C_toggle_17 h (fun v17 h => ?_)
  refine ww_iload_n 2 G d_C_toggle_18 rfl rfl ?_
  refine ww_ishr G d_C_toggle_19 ?_
  refine ww_iconst (v := (1 : Int32)) G d_C_toggle_20 ic_1 ?_
  refine ww_iand G d_C_toggle_21 ?_
  refine ww_iconst (v := (1 : Int32)) G d_C_toggle_22 ic_1 ?_
  refine ww_icmpne (tgt := 30) G d_C_toggle_23 (by decide) h (fun h => ?_) (fun h => ?_)
  · skip
    refine ww_iconst (v := (0 : Int32)) G d_C_toggle_30 ic_0 ?_
    exact ww_zret G E d_C_toggle_31 h
  · skip
    refine ww_iconst (v := (1 : Int32)) G d_C_toggle_26 ic_1 ?_
    refine ww_goto (tgt := 31) G d_C_toggle_27 (by decide) ?_
    exact ww_zret G E d_C_toggle_31 h
def f_C_addressedBy (i0 : Nat) (x1 : Int32) (s : Mem) : RR :=
  if ((3 : Int32)) ≤ x1 then (
    mm_ld s 15 i0 2 (x1 - ((3 : Int32))) fun v18 =>
    mm_ri v18 s
  ) else (
    mm_ri (mm_ishl ((1 : Int32)) x1) s
  )
set_option maxRecDepth 100000 in
set_option maxHeartbeats 4000000 in
theorem c_C_addressedBy {l : Launch} {K : KK} (i0 : Nat) (x1 : Int32) (h0 : i0 < 8) (s : Mem) (o : Oc) (q : Mem) (h : f_C_addressedBy i0 x1 s = some (o, q)) : Ct l K y_C_addressedBy b_C_addressedBy 2 (some .int) 0 0 [.ref (aa K 13 i0), .int x1] s o q := by
  refine Ct_of (own := "VillageMail$Boxes") (L := [(0, _), (1, _)]) (by decide +kernel) rfl (Nat.le_of_ble_eq_true rfl) rfl (fun Γ G E => ?_)
  unfold f_C_addressedBy at h
  refine ww_iload_n 1 G d_C_addressedBy_0 rfl rfl ?_
  refine ww_iconst (v := (3 : Int32)) G d_C_addressedBy_1 ic_3 ?_
  refine ww_icmpge (tgt := 11) G d_C_addressedBy_2 (by decide) h (fun h => ?_) (fun h => ?_)
  · skip
    refine ww_aload_n 0 G d_C_addressedBy_11 rfl rfl ?_
    refine ww_getr G fs_C_18 h0 d_C_addressedBy_12 ?_
    refine ww_iload_n 1 G d_C_addressedBy_15 rfl rfl ?_
    refine ww_iconst (v := (3 : Int32)) G d_C_addressedBy_16 ic_3 ?_
    refine ww_isub G d_C_addressedBy_17 ?_
    refine ww_iaload G ar_15 h0 d_C_addressedBy_18 h (fun v18 h => ?_)
    exact ww_iret G E d_C_addressedBy_19 h
  · skip
    refine ww_iconst (v := (1 : Int32)) G d_C_addressedBy_5 ic_1 ?_
    refine ww_iload_n 1 G d_C_addressedBy_6 rfl rfl ?_
    refine ww_ishl G d_C_addressedBy_7 ?_
    refine ww_goto (tgt := 19) G d_C_addressedBy_8 (by decide) ?_
    exact ww_iret G E d_C_addressedBy_19 h
def lp_C_allFit_2 (i0 : Nat) (x1 : Int32) (x2 : Int32) (k : Mem → RR) : Nat → Int32 → Mem → RR
  | 0, _, _ => none
  | n + 1, x3, s =>
    if ((3 : Int32)) ≤ x3 then (
      k s
    ) else (
      if ¬ ((mm_ishr x1 x3) &&& ((1 : Int32))) = ((1 : Int32)) then (
        lp_C_allFit_2 i0 x1 x2 k n (x3 + (1 : Int32)) s
      ) else (
        mm_al 3 x3 fun j21 =>
        mm_cI (f_B_fits ((3 * i0 + j21)) x2 s) fun v23 s23 =>
        if ¬ v23 = 0 then (
          lp_C_allFit_2 i0 x1 x2 k n (x3 + (1 : Int32)) s23
        ) else (
          mm_rz ((0 : Int32)) s23
        )
      )
    )
set_option maxRecDepth 100000 in
set_option maxHeartbeats 4000000 in
theorem lp_C_allFit_2_ok {K : KK} {Γ : Cx} {o : Oc} {q : Mem} (i0 : Nat) (x1 : Int32) (x2 : Int32) (h0 : i0 < 8) (k : Mem → RR) (G : Good K Γ b_C_allFit "VillageMail$Boxes" 4 1 21) (E : Ends K Γ (some .boolean) o q)
    (Kx : ∀  (s : Mem), k s = some (o, q) → WW K Γ 0 s 37 [] []) :
    ∀ (n : Nat) (x3 : Int32) (s : Mem), lp_C_allFit_2 i0 x1 x2 k n x3 s = some (o, q) → WW K Γ 0 s 2 [(0, .ref (aa K 13 i0)), (1, .int x1), (2, .int x2), (3, .int x3)] [] := by
  intro n
  induction n with
  | zero => intro _ _ h; exact nomatch h
  | succ n ih =>
    intro x3 s h
    unfold lp_C_allFit_2 at h
    refine ww_iload_n 3 G d_C_allFit_2 rfl rfl ?_
    refine ww_iconst (v := (3 : Int32)) G d_C_allFit_3 ic_3 ?_
    refine ww_icmpge (tgt := 37) G d_C_allFit_4 (by decide) h (fun h => ?_) (fun h => ?_)
    · skip
      refine ww_sub [] rfl ?_
      exact Kx  _ h
    · skip
      refine ww_iload_n 1 G d_C_allFit_7 rfl rfl ?_
      refine ww_iload_n 3 G d_C_allFit_8 rfl rfl ?_
      refine ww_ishr G d_C_allFit_9 ?_
      refine ww_iconst (v := (1 : Int32)) G d_C_allFit_10 ic_1 ?_
      refine ww_iand G d_C_allFit_11 ?_
      refine ww_iconst (v := (1 : Int32)) G d_C_allFit_12 ic_1 ?_
      refine ww_icmpne (tgt := 31) G d_C_allFit_13 (by decide) h (fun h => ?_) (fun h => ?_)
      · skip
        refine ww_iinc 3 (L' := [(3, _), (0, _), (1, _), (2, _)]) G d_C_allFit_31 rfl ic_1 (by decide) rfl ?_
        refine ww_goto (tgt := 2) G d_C_allFit_34 (by decide) ?_
        refine ww_sub [1, 2, 3, 0] rfl ?_
        exact ih _ _ h
      · skip
        refine ww_aload_n 0 G d_C_allFit_16 rfl rfl ?_
        refine ww_getr G fs_C_11 h0 d_C_allFit_17 ?_
        refine ww_iload_n 3 G d_C_allFit_20 rfl rfl ?_
        refine ww_aaload G ar_14 h0 d_C_allFit_21 h (fun j21 hj21 h => ?_)
        refine ww_iload_n 2 G d_C_allFit_22 rfl rfl ?_
        refine ww_cvI (As := [_]) G E cs_C_34 (show (3 * i0 + j21) < 24 by omega) (fun o q h => c_B_fits ((3 * i0 + j21)) x2 (show (3 * i0 + j21) < 24 by omega) _ _ _ h) rfl rfl (Nat.le_of_ble_eq_true rfl) d_C_allFit_23 (by decide) h (fun v23 s23 h => ?_)
        refine ww_ifne (tgt := 31) G d_C_allFit_26 (by decide) h (fun h => ?_) (fun h => ?_)
        · skip
          refine ww_iinc 3 (L' := [(3, _), (0, _), (1, _), (2, _)]) G d_C_allFit_31 rfl ic_1 (by decide) rfl ?_
          refine ww_goto (tgt := 2) G d_C_allFit_34 (by decide) ?_
          refine ww_sub [1, 2, 3, 0] rfl ?_
          exact ih _ _ h
        · skip
          refine ww_iconst (v := (0 : Int32)) G d_C_allFit_29 ic_0 ?_
          exact ww_zret G E d_C_allFit_30 h
def f_C_allFit (i0 : Nat) (x1 : Int32) (x2 : Int32) (s : Mem) : RR :=
  mm_lp (fun kk => lp_C_allFit_2 i0 x1 x2 kk FU ((0 : Int32)) s) fun s2 =>
  mm_rz ((1 : Int32)) s2
set_option maxRecDepth 100000 in
set_option maxHeartbeats 4000000 in
theorem c_C_allFit {l : Launch} {K : KK} (i0 : Nat) (x1 : Int32) (x2 : Int32) (h0 : i0 < 8) (s : Mem) (o : Oc) (q : Mem) (h : f_C_allFit i0 x1 x2 s = some (o, q)) : Ct l K y_C_allFit b_C_allFit 4 (some .boolean) 1 21 [.ref (aa K 13 i0), .int x1, .int x2] s o q := by
  refine Ct_of (own := "VillageMail$Boxes") (L := [(0, _), (1, _), (2, _)]) (by decide +kernel) rfl (Nat.le_of_ble_eq_true rfl) rfl (fun Γ G E => ?_)
  unfold f_C_allFit at h
  refine ww_iconst (v := (0 : Int32)) G d_C_allFit_0 ic_0 ?_
  refine ww_istore_n (L' := [(3, _), (0, _), (1, _), (2, _)]) G d_C_allFit_1 rfl (by decide) rfl ?_
  refine ww_sub [1, 2, 3, 0] rfl ?_
  refine lp_C_allFit_2_ok i0 x1 x2 h0 _ G E (fun s2 h => ?_) FU _ _ h
  refine ww_iconst (v := (1 : Int32)) G d_C_allFit_37 ic_1 ?_
  exact ww_zret G E d_C_allFit_38 h
def lp_C_putInto_27 (i0 : Nat) (x2 : Int32) (x3 : Int32) (x4 : Int32) (k : Mem → RR) : Nat → Int32 → Mem → RR
  | 0, _, _ => none
  | n + 1, x5, s =>
    if ((3 : Int32)) ≤ x5 then (
      k s
    ) else (
      if ¬ ((mm_ishr x4 x5) &&& ((1 : Int32))) = ((1 : Int32)) then (
        lp_C_putInto_27 i0 x2 x3 x4 k n (x5 + (1 : Int32)) s
      ) else (
        mm_al 3 x5 fun j50 =>
        mm_cV (f_B_put ((3 * i0 + j50)) x2 x3 s) fun s53 =>
        lp_C_putInto_27 i0 x2 x3 x4 k n (x5 + (1 : Int32)) s53
      )
    )
set_option maxRecDepth 100000 in
set_option maxHeartbeats 4000000 in
theorem lp_C_putInto_27_ok {K : KK} {Γ : Cx} {o : Oc} {q : Mem} (i0 : Nat) (x2 : Int32) (x3 : Int32) (x4 : Int32) (h0 : i0 < 8) (k : Mem → RR) (G : Good K Γ b_C_putInto "VillageMail$Boxes" 6 2 44) (E : Ends K Γ (some .boolean) o q)
    (Kx : ∀  (s : Mem), k s = some (o, q) → WW K Γ 0 s 62 [] []) :
    ∀ (n : Nat) (x5 : Int32) (s : Mem), lp_C_putInto_27 i0 x2 x3 x4 k n x5 s = some (o, q) → WW K Γ 0 s 27 [(0, .ref (aa K 13 i0)), (2, .int x2), (3, .int x3), (4, .int x4), (5, .int x5)] [] := by
  intro n
  induction n with
  | zero => intro _ _ h; exact nomatch h
  | succ n ih =>
    intro x5 s h
    unfold lp_C_putInto_27 at h
    refine ww_iload 4 G d_C_putInto_27 rfl ?_
    refine ww_iconst (v := (3 : Int32)) G d_C_putInto_29 ic_3 ?_
    refine ww_icmpge (tgt := 62) G d_C_putInto_30 (by decide) h (fun h => ?_) (fun h => ?_)
    · skip
      refine ww_sub [] rfl ?_
      exact Kx  _ h
    · skip
      refine ww_iload 3 G d_C_putInto_33 rfl ?_
      refine ww_iload 4 G d_C_putInto_35 rfl ?_
      refine ww_ishr G d_C_putInto_37 ?_
      refine ww_iconst (v := (1 : Int32)) G d_C_putInto_38 ic_1 ?_
      refine ww_iand G d_C_putInto_39 ?_
      refine ww_iconst (v := (1 : Int32)) G d_C_putInto_40 ic_1 ?_
      refine ww_icmpne (tgt := 56) G d_C_putInto_41 (by decide) h (fun h => ?_) (fun h => ?_)
      · skip
        refine ww_iinc 4 (L' := [(5, _), (0, _), (2, _), (3, _), (4, _)]) G d_C_putInto_56 rfl ic_1 (by decide) rfl ?_
        refine ww_goto (tgt := 27) G d_C_putInto_59 (by decide) ?_
        refine ww_sub [1, 2, 3, 4, 0] rfl ?_
        exact ih _ _ h
      · skip
        refine ww_aload_n 0 G d_C_putInto_44 rfl rfl ?_
        refine ww_getr G fs_C_11 h0 d_C_putInto_45 ?_
        refine ww_iload 4 G d_C_putInto_48 rfl ?_
        refine ww_aaload G ar_14 h0 d_C_putInto_50 h (fun j50 hj50 h => ?_)
        refine ww_iload_n 1 G d_C_putInto_51 rfl rfl ?_
        refine ww_iload_n 2 G d_C_putInto_52 rfl rfl ?_
        refine ww_cvV (As := [_, _]) G E cs_C_30 (show (3 * i0 + j50) < 24 by omega) (fun o q h => c_B_put ((3 * i0 + j50)) x2 x3 (show (3 * i0 + j50) < 24 by omega) _ _ _ h) rfl rfl (Nat.le_of_ble_eq_true rfl) d_C_putInto_53 (by decide) h (fun s53 h => ?_)
        refine ww_iinc 4 (L' := [(5, _), (0, _), (2, _), (3, _), (4, _)]) G d_C_putInto_56 rfl ic_1 (by decide) rfl ?_
        refine ww_goto (tgt := 27) G d_C_putInto_59 (by decide) ?_
        refine ww_sub [1, 2, 3, 4, 0] rfl ?_
        exact ih _ _ h
def f_C_putInto (i0 : Nat) (x1 : Int32) (x2 : Int32) (x3 : Int32) (s : Mem) : RR :=
  mm_cI (f_C_addressedBy i0 x1 s) fun v2 s2 =>
  if v2 = 0 then (
    mm_rz ((0 : Int32)) s2
  ) else (
    mm_cI (f_C_allFit i0 v2 x3 s2) fun v16 s16 =>
    if ¬ v16 = 0 then (
      mm_lp (fun kk => lp_C_putInto_27 i0 x2 x3 v2 kk FU ((0 : Int32)) s16) fun s27 =>
      mm_rz ((1 : Int32)) s27
    ) else (
      mm_rz ((0 : Int32)) s16
    )
  )
set_option maxRecDepth 100000 in
set_option maxHeartbeats 4000000 in
theorem c_C_putInto {l : Launch} {K : KK} (i0 : Nat) (x1 : Int32) (x2 : Int32) (x3 : Int32) (h0 : i0 < 8) (s : Mem) (o : Oc) (q : Mem) (h : f_C_putInto i0 x1 x2 x3 s = some (o, q)) : Ct l K y_C_putInto b_C_putInto 6 (some .boolean) 2 44 [.ref (aa K 13 i0), .int x1, .int x2, .int x3] s o q := by
  refine Ct_of (own := "VillageMail$Boxes") (L := [(0, _), (1, _), (2, _), (3, _)]) (by decide +kernel) rfl (Nat.le_of_ble_eq_true rfl) rfl (fun Γ G E => ?_)
  unfold f_C_putInto at h
  refine ww_aload_n 0 G d_C_putInto_0 rfl rfl ?_
  refine ww_iload_n 1 G d_C_putInto_1 rfl rfl ?_
  refine ww_cvI (As := [_]) G E cs_C_22 h0 (fun o q h => c_C_addressedBy i0 x1 h0 _ _ _ h) rfl rfl (Nat.le_of_ble_eq_true rfl) d_C_putInto_2 (by decide) h (fun v2 s2 h => ?_)
  refine ww_istore (L' := [(4, _), (0, _), (1, _), (2, _), (3, _)]) G d_C_putInto_5 (by decide) rfl ?_
  refine ww_iload 0 G d_C_putInto_7 rfl ?_
  refine ww_ifeq (tgt := 22) G d_C_putInto_9 (by decide) h (fun h => ?_) (fun h => ?_)
  · skip
    refine ww_iconst (v := (0 : Int32)) G d_C_putInto_22 ic_0 ?_
    exact ww_zret G E d_C_putInto_23 h
  · skip
    refine ww_aload_n 1 G d_C_putInto_12 rfl rfl ?_
    refine ww_iload 0 G d_C_putInto_13 rfl ?_
    refine ww_iload_n 4 G d_C_putInto_15 rfl rfl ?_
    refine ww_cvI (As := [_, _]) G E cs_C_26 h0 (fun o q h => c_C_allFit i0 v2 x3 h0 _ _ _ h) rfl rfl (Nat.le_of_ble_eq_true rfl) d_C_putInto_16 (by decide) h (fun v16 s16 h => ?_)
    refine ww_ifne (tgt := 24) G d_C_putInto_19 (by decide) h (fun h => ?_) (fun h => ?_)
    · skip
      refine ww_iconst (v := (0 : Int32)) G d_C_putInto_24 ic_0 ?_
      refine ww_istore (L' := [(5, _), (4, _), (0, _), (1, _), (2, _), (3, _)]) G d_C_putInto_25 (by decide) rfl ?_
      refine ww_sub [2, 4, 5, 1, 0] rfl ?_
      refine lp_C_putInto_27_ok i0 x2 x3 v2 h0 _ G E (fun s27 h => ?_) FU _ _ h
      refine ww_iconst (v := (1 : Int32)) G d_C_putInto_62 ic_1 ?_
      exact ww_zret G E d_C_putInto_63 h
    · skip
      refine ww_iconst (v := (0 : Int32)) G d_C_putInto_22 ic_0 ?_
      exact ww_zret G E d_C_putInto_23 h
def f_O_add (i0 : Nat) (x1 : Int32) (s : Mem) : RR :=
  mm_gf s 26 i0 1 fun v5 =>
  mm_st s 27 i0 24 v5 x1 fun s9 =>
  mm_gf s9 26 i0 1 fun v12 =>
  mm_pf s9 26 i0 1 (v12 + ((1 : Int32))) fun s17 =>
  mm_rv s17
set_option maxRecDepth 100000 in
set_option maxHeartbeats 4000000 in
theorem c_O_add {l : Launch} {K : KK} (i0 : Nat) (x1 : Int32) (h0 : i0 < 2) (s : Mem) (o : Oc) (q : Mem) (h : f_O_add i0 x1 s = some (o, q)) : Ct l K y_O_add b_O_add 2 none 0 0 [.ref (aa K 26 i0), .int x1] s o q := by
  refine Ct_of (own := "VillageMail$Offers") (L := [(0, _), (1, _)]) (by decide +kernel) rfl (Nat.le_of_ble_eq_true rfl) rfl (fun Γ G E => ?_)
  unfold f_O_add at h
  refine ww_aload_n 0 G d_O_add_0 rfl rfl ?_
  refine ww_getr G fs_O_9 h0 d_O_add_1 ?_
  refine ww_aload_n 0 G d_O_add_4 rfl rfl ?_
  refine ww_getf G fs_O_15 h0 d_O_add_5 h (fun v5 h => ?_)
  refine ww_iload_n 1 G d_O_add_8 rfl rfl ?_
  refine ww_iastore G ar_27 h0 d_O_add_9 h (fun s9 h => ?_)
  refine ww_aload_n 0 G d_O_add_10 rfl rfl ?_
  refine ww_dup G d_O_add_11 rfl ?_
  refine ww_getf G fs_O_15 h0 d_O_add_12 h (fun v12 h => ?_)
  refine ww_iconst (v := (1 : Int32)) G d_O_add_15 ic_1 ?_
  refine ww_iadd G d_O_add_16 ?_
  refine ww_putf G fs_O_15 h0 d_O_add_17 h (fun s17 h => ?_)
  exact ww_vret G E d_O_add_20 h
def lp_T_find_2 (i0 : Nat) (x1 : Int32) (x2 : Int32) (k : Mem → RR) : Nat → Int32 → Mem → RR
  | 0, _, _ => none
  | n + 1, x3, s =>
    mm_gf s 1 i0 3 fun v4 =>
    if v4 ≤ x3 then (
      k s
    ) else (
      mm_ld s 2 i0 24 x3 fun v15 =>
      if ¬ v15 = x1 then (
        lp_T_find_2 i0 x1 x2 k n (x3 + (1 : Int32)) s
      ) else (
        mm_ld s 4 i0 24 x3 fun v25 =>
        if ¬ v25 = x2 then (
          lp_T_find_2 i0 x1 x2 k n (x3 + (1 : Int32)) s
        ) else (
          mm_ri x3 s
        )
      )
    )
set_option maxRecDepth 100000 in
set_option maxHeartbeats 4000000 in
theorem lp_T_find_2_ok {K : KK} {Γ : Cx} {o : Oc} {q : Mem} (i0 : Nat) (x1 : Int32) (x2 : Int32) (h0 : i0 < 8) (k : Mem → RR) (G : Good K Γ b_T_find "VillageMail$Timetable" 4 0 0) (E : Ends K Γ (some .int) o q)
    (Kx : ∀  (s : Mem), k s = some (o, q) → WW K Γ 0 s 38 [] []) :
    ∀ (n : Nat) (x3 : Int32) (s : Mem), lp_T_find_2 i0 x1 x2 k n x3 s = some (o, q) → WW K Γ 0 s 2 [(0, .ref (aa K 1 i0)), (1, .int x1), (2, .int x2), (3, .int x3)] [] := by
  intro n
  induction n with
  | zero => intro _ _ h; exact nomatch h
  | succ n ih =>
    intro x3 s h
    unfold lp_T_find_2 at h
    refine ww_iload_n 3 G d_T_find_2 rfl rfl ?_
    refine ww_aload_n 0 G d_T_find_3 rfl rfl ?_
    refine ww_getf G fs_T_21 h0 d_T_find_4 h (fun v4 h => ?_)
    refine ww_icmpge (tgt := 38) G d_T_find_7 (by decide) h (fun h => ?_) (fun h => ?_)
    · skip
      refine ww_sub [] rfl ?_
      exact Kx  _ h
    · skip
      refine ww_aload_n 0 G d_T_find_10 rfl rfl ?_
      refine ww_getr G fs_T_9 h0 d_T_find_11 ?_
      refine ww_iload_n 3 G d_T_find_14 rfl rfl ?_
      refine ww_iaload G ar_2 h0 d_T_find_15 h (fun v15 h => ?_)
      refine ww_iload_n 1 G d_T_find_16 rfl rfl ?_
      refine ww_icmpne (tgt := 32) G d_T_find_17 (by decide) h (fun h => ?_) (fun h => ?_)
      · skip
        refine ww_iinc 3 (L' := [(3, _), (0, _), (1, _), (2, _)]) G d_T_find_32 rfl ic_1 (by decide) rfl ?_
        refine ww_goto (tgt := 2) G d_T_find_35 (by decide) ?_
        refine ww_sub [1, 2, 3, 0] rfl ?_
        exact ih _ _ h
      · skip
        refine ww_aload_n 0 G d_T_find_20 rfl rfl ?_
        refine ww_getr G fs_T_18 h0 d_T_find_21 ?_
        refine ww_iload_n 3 G d_T_find_24 rfl rfl ?_
        refine ww_iaload G ar_4 h0 d_T_find_25 h (fun v25 h => ?_)
        refine ww_iload_n 2 G d_T_find_26 rfl rfl ?_
        refine ww_icmpne (tgt := 32) G d_T_find_27 (by decide) h (fun h => ?_) (fun h => ?_)
        · skip
          refine ww_iinc 3 (L' := [(3, _), (0, _), (1, _), (2, _)]) G d_T_find_32 rfl ic_1 (by decide) rfl ?_
          refine ww_goto (tgt := 2) G d_T_find_35 (by decide) ?_
          refine ww_sub [1, 2, 3, 0] rfl ?_
          exact ih _ _ h
        · skip
          refine ww_iload_n 3 G d_T_find_30 rfl rfl ?_
          exact ww_iret G E d_T_find_31 h
def f_T_find (i0 : Nat) (x1 : Int32) (x2 : Int32) (s : Mem) : RR :=
  mm_lp (fun kk => lp_T_find_2 i0 x1 x2 kk FU ((0 : Int32)) s) fun s2 =>
  mm_ri ((-1 : Int32)) s2
set_option maxRecDepth 100000 in
set_option maxHeartbeats 4000000 in
theorem c_T_find {l : Launch} {K : KK} (i0 : Nat) (x1 : Int32) (x2 : Int32) (h0 : i0 < 8) (s : Mem) (o : Oc) (q : Mem) (h : f_T_find i0 x1 x2 s = some (o, q)) : Ct l K y_T_find b_T_find 4 (some .int) 0 0 [.ref (aa K 1 i0), .int x1, .int x2] s o q := by
  refine Ct_of (own := "VillageMail$Timetable") (L := [(0, _), (1, _), (2, _)]) (by decide +kernel) rfl (Nat.le_of_ble_eq_true rfl) rfl (fun Γ G E => ?_)
  unfold f_T_find at h
  refine ww_iconst (v := (0 : Int32)) G d_T_find_0 ic_0 ?_
  refine ww_istore_n (L' := [(3, _), (0, _), (1, _), (2, _)]) G d_T_find_1 rfl (by decide) rfl ?_
  refine ww_sub [1, 2, 3, 0] rfl ?_
  refine lp_T_find_2_ok i0 x1 x2 h0 _ G E (fun s2 h => ?_) FU _ _ h
  refine ww_iconst (v := (-1 : Int32)) G d_T_find_38 ic_m1 ?_
  exact ww_iret G E d_T_find_39 h
def f_T_set (i0 : Nat) (x1 : Int32) (x2 : Int32) (x3 : Int32) (x4 : Int32) (s : Mem) : RR :=
  mm_st s 2 i0 24 x1 x2 fun s6 =>
  mm_st s6 3 i0 24 x1 x3 fun s13 =>
  mm_st s13 4 i0 24 x1 x4 fun s21 =>
  mm_rv s21
set_option maxRecDepth 100000 in
set_option maxHeartbeats 4000000 in
theorem c_T_set {l : Launch} {K : KK} (i0 : Nat) (x1 : Int32) (x2 : Int32) (x3 : Int32) (x4 : Int32) (h0 : i0 < 8) (s : Mem) (o : Oc) (q : Mem) (h : f_T_set i0 x1 x2 x3 x4 s = some (o, q)) : Ct l K y_T_set b_T_set 5 none 0 0 [.ref (aa K 1 i0), .int x1, .int x2, .int x3, .int x4] s o q := by
  refine Ct_of (own := "VillageMail$Timetable") (L := [(0, _), (1, _), (2, _), (3, _), (4, _)]) (by decide +kernel) rfl (Nat.le_of_ble_eq_true rfl) rfl (fun Γ G E => ?_)
  unfold f_T_set at h
  refine ww_aload_n 0 G d_T_set_0 rfl rfl ?_
  refine ww_getr G fs_T_9 h0 d_T_set_1 ?_
  refine ww_iload_n 1 G d_T_set_4 rfl rfl ?_
  refine ww_iload_n 2 G d_T_set_5 rfl rfl ?_
  refine ww_iastore G ar_2 h0 d_T_set_6 h (fun s6 h => ?_)
  refine ww_aload_n 0 G d_T_set_7 rfl rfl ?_
  refine ww_getr G fs_T_15 h0 d_T_set_8 ?_
  refine ww_iload_n 1 G d_T_set_11 rfl rfl ?_
  refine ww_iload_n 3 G d_T_set_12 rfl rfl ?_
  refine ww_iastore G ar_3 h0 d_T_set_13 h (fun s13 h => ?_)
  refine ww_aload_n 0 G d_T_set_14 rfl rfl ?_
  refine ww_getr G fs_T_18 h0 d_T_set_15 ?_
  refine ww_iload_n 1 G d_T_set_18 rfl rfl ?_
  refine ww_iload 4 G d_T_set_19 rfl ?_
  refine ww_iastore G ar_4 h0 d_T_set_21 h (fun s21 h => ?_)
  exact ww_vret G E d_T_set_22 h
def lp_T_insert_6 (i0 : Nat) (x1 : Int32) (x2 : Int32) (x3 : Int32) (k : Int32 → Mem → RR) : Nat → Int32 → Mem → RR
  | 0, _, _ => none
  | n + 1, x4, s =>
    if x4 ≤ 0 then (
      k x4 s
    ) else (
      mm_ld s 4 i0 24 (x4 - ((1 : Int32))) fun v19 =>
      if v19 ≤ x3 then (
        k x4 s
      ) else (
        mm_ld s 2 i0 24 (x4 - ((1 : Int32))) fun v35 =>
        mm_ld s 3 i0 24 (x4 - ((1 : Int32))) fun v44 =>
        mm_ld s 4 i0 24 (x4 - ((1 : Int32))) fun v53 =>
        mm_cV (f_T_set i0 x4 v35 v44 v53 s) fun s54 =>
        lp_T_insert_6 i0 x1 x2 x3 k n (x4 + (-1 : Int32)) s54
      )
    )
set_option maxRecDepth 100000 in
set_option maxHeartbeats 4000000 in
theorem lp_T_insert_6_ok {K : KK} {Γ : Cx} {o : Oc} {q : Mem} (i0 : Nat) (x1 : Int32) (x2 : Int32) (x3 : Int32) (h0 : i0 < 8) (k : Int32 → Mem → RR) (G : Good K Γ b_T_insert "VillageMail$Timetable" 5 1 24) (E : Ends K Γ none o q)
    (Kx : ∀ (x4 : Int32) (s : Mem), k x4 s = some (o, q) → WW K Γ 0 s 63 [(0, .ref (aa K 1 i0)), (1, .int x1), (2, .int x2), (3, .int x3), (4, .int x4)] []) :
    ∀ (n : Nat) (x4 : Int32) (s : Mem), lp_T_insert_6 i0 x1 x2 x3 k n x4 s = some (o, q) → WW K Γ 0 s 6 [(0, .ref (aa K 1 i0)), (1, .int x1), (2, .int x2), (3, .int x3), (4, .int x4)] [] := by
  intro n
  induction n with
  | zero => intro _ _ h; exact nomatch h
  | succ n ih =>
    intro x4 s h
    unfold lp_T_insert_6 at h
    refine ww_iload 4 G d_T_insert_6 rfl ?_
    refine ww_ifle (tgt := 63) G d_T_insert_8 (by decide) h (fun h => ?_) (fun h => ?_)
    · skip
      exact Kx _ _ h
    · skip
      refine ww_aload_n 0 G d_T_insert_11 rfl rfl ?_
      refine ww_getr G fs_T_18 h0 d_T_insert_12 ?_
      refine ww_iload 4 G d_T_insert_15 rfl ?_
      refine ww_iconst (v := (1 : Int32)) G d_T_insert_17 ic_1 ?_
      refine ww_isub G d_T_insert_18 ?_
      refine ww_iaload G ar_4 h0 d_T_insert_19 h (fun v19 h => ?_)
      refine ww_iload_n 3 G d_T_insert_20 rfl rfl ?_
      refine ww_icmple (tgt := 63) G d_T_insert_21 (by decide) h (fun h => ?_) (fun h => ?_)
      · skip
        exact Kx _ _ h
      · skip
        refine ww_aload_n 0 G d_T_insert_24 rfl rfl ?_
        refine ww_iload 4 G d_T_insert_25 rfl ?_
        refine ww_aload_n 0 G d_T_insert_27 rfl rfl ?_
        refine ww_getr G fs_T_9 h0 d_T_insert_28 ?_
        refine ww_iload 4 G d_T_insert_31 rfl ?_
        refine ww_iconst (v := (1 : Int32)) G d_T_insert_33 ic_1 ?_
        refine ww_isub G d_T_insert_34 ?_
        refine ww_iaload G ar_2 h0 d_T_insert_35 h (fun v35 h => ?_)
        refine ww_aload_n 0 G d_T_insert_36 rfl rfl ?_
        refine ww_getr G fs_T_15 h0 d_T_insert_37 ?_
        refine ww_iload 4 G d_T_insert_40 rfl ?_
        refine ww_iconst (v := (1 : Int32)) G d_T_insert_42 ic_1 ?_
        refine ww_isub G d_T_insert_43 ?_
        refine ww_iaload G ar_3 h0 d_T_insert_44 h (fun v44 h => ?_)
        refine ww_aload_n 0 G d_T_insert_45 rfl rfl ?_
        refine ww_getr G fs_T_18 h0 d_T_insert_46 ?_
        refine ww_iload 4 G d_T_insert_49 rfl ?_
        refine ww_iconst (v := (1 : Int32)) G d_T_insert_51 ic_1 ?_
        refine ww_isub G d_T_insert_52 ?_
        refine ww_iaload G ar_4 h0 d_T_insert_53 h (fun v53 h => ?_)
        refine ww_cvV (As := [_, _, _, _]) G E cs_T_25 h0 (fun o q h => c_T_set i0 x4 v35 v44 v53 h0 _ _ _ h) rfl rfl (Nat.le_of_ble_eq_true rfl) d_T_insert_54 (by decide) h (fun s54 h => ?_)
        refine ww_iinc 4 (L' := [(4, _), (0, _), (1, _), (2, _), (3, _)]) G d_T_insert_57 rfl ic_m1 (by decide) rfl ?_
        refine ww_goto (tgt := 6) G d_T_insert_60 (by decide) ?_
        refine ww_sub [1, 2, 3, 4, 0] rfl ?_
        exact ih _ _ h
def f_T_insert (i0 : Nat) (x1 : Int32) (x2 : Int32) (x3 : Int32) (s : Mem) : RR :=
  mm_gf s 1 i0 3 fun v1 =>
  mm_lp (fun kk => lp_T_insert_6 i0 x1 x2 x3 kk FU v1 s) fun x4_6 s6 =>
  mm_cV (f_T_set i0 x4_6 x1 x2 x3 s6) fun s69 =>
  mm_gf s69 1 i0 3 fun v74 =>
  mm_pf s69 1 i0 3 (v74 + ((1 : Int32))) fun s79 =>
  mm_rv s79
set_option maxRecDepth 100000 in
set_option maxHeartbeats 4000000 in
theorem c_T_insert {l : Launch} {K : KK} (i0 : Nat) (x1 : Int32) (x2 : Int32) (x3 : Int32) (h0 : i0 < 8) (s : Mem) (o : Oc) (q : Mem) (h : f_T_insert i0 x1 x2 x3 s = some (o, q)) : Ct l K y_T_insert b_T_insert 5 none 1 24 [.ref (aa K 1 i0), .int x1, .int x2, .int x3] s o q := by
  refine Ct_of (own := "VillageMail$Timetable") (L := [(0, _), (1, _), (2, _), (3, _)]) (by decide +kernel) rfl (Nat.le_of_ble_eq_true rfl) rfl (fun Γ G E => ?_)
  unfold f_T_insert at h
  refine ww_aload_n 0 G d_T_insert_0 rfl rfl ?_
  refine ww_getf G fs_T_21 h0 d_T_insert_1 h (fun v1 h => ?_)
  refine ww_istore (L' := [(4, _), (0, _), (1, _), (2, _), (3, _)]) G d_T_insert_4 (by decide) rfl ?_
  refine ww_sub [1, 2, 3, 4, 0] rfl ?_
  refine lp_T_insert_6_ok i0 x1 x2 x3 h0 _ G E (fun x4_6 s6 h => ?_) FU _ _ h
  refine ww_aload_n 0 G d_T_insert_63 rfl rfl ?_
  refine ww_iload 4 G d_T_insert_64 rfl ?_
  refine ww_iload_n 1 G d_T_insert_66 rfl rfl ?_
  refine ww_iload_n 2 G d_T_insert_67 rfl rfl ?_
  refine ww_iload_n 3 G d_T_insert_68 rfl rfl ?_
  refine ww_cvV (As := [_, _, _, _]) G E cs_T_25 h0 (fun o q h => c_T_set i0 x4_6 x1 x2 x3 h0 _ _ _ h) rfl rfl (Nat.le_of_ble_eq_true rfl) d_T_insert_69 (by decide) h (fun s69 h => ?_)
  refine ww_aload_n 0 G d_T_insert_72 rfl rfl ?_
  refine ww_dup G d_T_insert_73 rfl ?_
  refine ww_getf G fs_T_21 h0 d_T_insert_74 h (fun v74 h => ?_)
  refine ww_iconst (v := (1 : Int32)) G d_T_insert_77 ic_1 ?_
  refine ww_iadd G d_T_insert_78 ?_
  refine ww_putf G fs_T_21 h0 d_T_insert_79 h (fun s79 h => ?_)
  exact ww_vret G E d_T_insert_82 h
def lp_T_takeOut_12 (i0 : Nat) (k : Mem → RR) : Nat → Int32 → Mem → RR
  | 0, _, _ => none
  | n + 1, x2, s =>
    mm_gf s 1 i0 3 fun v14 =>
    if v14 ≤ x2 then (
      k s
    ) else (
      mm_ld s 2 i0 24 (x2 + ((1 : Int32))) fun v29 =>
      mm_ld s 3 i0 24 (x2 + ((1 : Int32))) fun v37 =>
      mm_ld s 4 i0 24 (x2 + ((1 : Int32))) fun v45 =>
      mm_cV (f_T_set i0 x2 v29 v37 v45 s) fun s46 =>
      lp_T_takeOut_12 i0 k n (x2 + (1 : Int32)) s46
    )
set_option maxRecDepth 100000 in
set_option maxHeartbeats 4000000 in
theorem lp_T_takeOut_12_ok {K : KK} {Γ : Cx} {o : Oc} {q : Mem} (i0 : Nat) (h0 : i0 < 8) (k : Mem → RR) (G : Good K Γ b_T_takeOut "VillageMail$Timetable" 3 1 24) (E : Ends K Γ none o q)
    (Kx : ∀  (s : Mem), k s = some (o, q) → WW K Γ 0 s 55 [] []) :
    ∀ (n : Nat) (x2 : Int32) (s : Mem), lp_T_takeOut_12 i0 k n x2 s = some (o, q) → WW K Γ 0 s 12 [(0, .ref (aa K 1 i0)), (2, .int x2)] [] := by
  intro n
  induction n with
  | zero => intro _ _ h; exact nomatch h
  | succ n ih =>
    intro x2 s h
    unfold lp_T_takeOut_12 at h
    refine ww_iload_n 1 G d_T_takeOut_12 rfl rfl ?_
    refine ww_aload_n 0 G d_T_takeOut_13 rfl rfl ?_
    refine ww_getf G fs_T_21 h0 d_T_takeOut_14 h (fun v14 h => ?_)
    refine ww_icmpge (tgt := 55) G d_T_takeOut_17 (by decide) h (fun h => ?_) (fun h => ?_)
    · skip
      refine ww_sub [] rfl ?_
      exact Kx  _ h
    · skip
      refine ww_aload_n 0 G d_T_takeOut_20 rfl rfl ?_
      refine ww_iload_n 1 G d_T_takeOut_21 rfl rfl ?_
      refine ww_aload_n 0 G d_T_takeOut_22 rfl rfl ?_
      refine ww_getr G fs_T_9 h0 d_T_takeOut_23 ?_
      refine ww_iload_n 1 G d_T_takeOut_26 rfl rfl ?_
      refine ww_iconst (v := (1 : Int32)) G d_T_takeOut_27 ic_1 ?_
      refine ww_iadd G d_T_takeOut_28 ?_
      refine ww_iaload G ar_2 h0 d_T_takeOut_29 h (fun v29 h => ?_)
      refine ww_aload_n 0 G d_T_takeOut_30 rfl rfl ?_
      refine ww_getr G fs_T_15 h0 d_T_takeOut_31 ?_
      refine ww_iload_n 1 G d_T_takeOut_34 rfl rfl ?_
      refine ww_iconst (v := (1 : Int32)) G d_T_takeOut_35 ic_1 ?_
      refine ww_iadd G d_T_takeOut_36 ?_
      refine ww_iaload G ar_3 h0 d_T_takeOut_37 h (fun v37 h => ?_)
      refine ww_aload_n 0 G d_T_takeOut_38 rfl rfl ?_
      refine ww_getr G fs_T_18 h0 d_T_takeOut_39 ?_
      refine ww_iload_n 1 G d_T_takeOut_42 rfl rfl ?_
      refine ww_iconst (v := (1 : Int32)) G d_T_takeOut_43 ic_1 ?_
      refine ww_iadd G d_T_takeOut_44 ?_
      refine ww_iaload G ar_4 h0 d_T_takeOut_45 h (fun v45 h => ?_)
      refine ww_cvV (As := [_, _, _, _]) G E cs_T_25 h0 (fun o q h => c_T_set i0 x2 v29 v37 v45 h0 _ _ _ h) rfl rfl (Nat.le_of_ble_eq_true rfl) d_T_takeOut_46 (by decide) h (fun s46 h => ?_)
      refine ww_iinc 1 (L' := [(2, _), (0, _)]) G d_T_takeOut_49 rfl ic_1 (by decide) rfl ?_
      refine ww_goto (tgt := 12) G d_T_takeOut_52 (by decide) ?_
      refine ww_sub [1, 0] rfl ?_
      exact ih _ _ h
def f_T_takeOut (i0 : Nat) (x1 : Int32) (s : Mem) : RR :=
  mm_gf s 1 i0 3 fun v2 =>
  mm_pf s 1 i0 3 (v2 - ((1 : Int32))) fun s7 =>
  mm_lp (fun kk => lp_T_takeOut_12 i0 kk FU x1 s7) fun s12 =>
  mm_rv s12
set_option maxRecDepth 100000 in
set_option maxHeartbeats 4000000 in
theorem c_T_takeOut {l : Launch} {K : KK} (i0 : Nat) (x1 : Int32) (h0 : i0 < 8) (s : Mem) (o : Oc) (q : Mem) (h : f_T_takeOut i0 x1 s = some (o, q)) : Ct l K y_T_takeOut b_T_takeOut 3 none 1 24 [.ref (aa K 1 i0), .int x1] s o q := by
  refine Ct_of (own := "VillageMail$Timetable") (L := [(0, _), (1, _)]) (by decide +kernel) rfl (Nat.le_of_ble_eq_true rfl) rfl (fun Γ G E => ?_)
  unfold f_T_takeOut at h
  refine ww_aload_n 0 G d_T_takeOut_0 rfl rfl ?_
  refine ww_dup G d_T_takeOut_1 rfl ?_
  refine ww_getf G fs_T_21 h0 d_T_takeOut_2 h (fun v2 h => ?_)
  refine ww_iconst (v := (1 : Int32)) G d_T_takeOut_5 ic_1 ?_
  refine ww_isub G d_T_takeOut_6 ?_
  refine ww_putf G fs_T_21 h0 d_T_takeOut_7 h (fun s7 h => ?_)
  refine ww_iload_n 1 G d_T_takeOut_10 rfl rfl ?_
  refine ww_istore_n (L' := [(2, _), (0, _), (1, _)]) G d_T_takeOut_11 rfl (by decide) rfl ?_
  refine ww_sub [1, 0] rfl ?_
  refine lp_T_takeOut_12_ok i0 h0 _ G E (fun s12 h => ?_) FU _ _ h
  exact ww_vret G E d_T_takeOut_55 h
end

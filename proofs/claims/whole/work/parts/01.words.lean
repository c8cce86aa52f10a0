-- ===== PART A: goes FIRST, ahead of the names: the tables' words, and 'selects' of the private methods out of them =====
/-- a private method of a class that the tables say can be made, by its rows of tables_1 -/
def lw_okq (q : MethodName × Nat) : Prop := (q.1.cls ≠ "java/lang/invoke/MethodHandle" ∧ q.1.cls ≠ "java/lang/invoke/VarHandle") ∧ Cond.instantiable q.1.cls q.2 ∈ tables_1 ∧ Cond.privateMethod q.1 ∈ tables_1 ∧ Cond.instanceMethod q.1 ∈ tables_1
theorem lw_p0 : lw_okq (⟨"StabilitySums", "gather", "()V"⟩, 10) := ⟨⟨by decide +kernel, by decide +kernel⟩, List.mem_of_getElem? (i := 20) (by decide +kernel), List.mem_of_getElem? (i := 277) (by decide +kernel), List.mem_of_getElem? (i := 278) (by decide +kernel)⟩
theorem lw_p1 : lw_okq (⟨"StabilitySums", "tryMore", "(IJ)V"⟩, 10) := ⟨⟨by decide +kernel, by decide +kernel⟩, List.mem_of_getElem? (i := 20) (by decide +kernel), List.mem_of_getElem? (i := 292) (by decide +kernel), List.mem_of_getElem? (i := 293) (by decide +kernel)⟩
theorem lw_p2 : lw_okq (⟨"StabilitySums", "tryFilling", "(IJ)V"⟩, 10) := ⟨⟨by decide +kernel, by decide +kernel⟩, List.mem_of_getElem? (i := 20) (by decide +kernel), List.mem_of_getElem? (i := 304) (by decide +kernel), List.mem_of_getElem? (i := 305) (by decide +kernel)⟩
theorem lw_p3 : lw_okq (⟨"StabilitySums", "leastBroken", "()I"⟩, 10) := ⟨⟨by decide +kernel, by decide +kernel⟩, List.mem_of_getElem? (i := 20) (by decide +kernel), List.mem_of_getElem? (i := 316) (by decide +kernel), List.mem_of_getElem? (i := 317) (by decide +kernel)⟩
theorem lw_p4 : lw_okq (⟨"StabilitySums", "breaks", "(I)Z"⟩, 10) := ⟨⟨by decide +kernel, by decide +kernel⟩, List.mem_of_getElem? (i := 20) (by decide +kernel), List.mem_of_getElem? (i := 320) (by decide +kernel), List.mem_of_getElem? (i := 321) (by decide +kernel)⟩
theorem lw_p5 : lw_okq (⟨"StabilitySums", "shearAt", "(I)J"⟩, 10) := ⟨⟨by decide +kernel, by decide +kernel⟩, List.mem_of_getElem? (i := 20) (by decide +kernel), List.mem_of_getElem? (i := 324) (by decide +kernel), List.mem_of_getElem? (i := 325) (by decide +kernel)⟩
theorem lw_p6 : lw_okq (⟨"StabilitySums", "bendingAt", "(I)J"⟩, 10) := ⟨⟨by decide +kernel, by decide +kernel⟩, List.mem_of_getElem? (i := 20) (by decide +kernel), List.mem_of_getElem? (i := 334) (by decide +kernel), List.mem_of_getElem? (i := 335) (by decide +kernel)⟩
theorem lw_p7 : lw_okq (⟨"StabilitySums", "isWithoutAnswer", "(I)Z"⟩, 10) := ⟨⟨by decide +kernel, by decide +kernel⟩, List.mem_of_getElem? (i := 20) (by decide +kernel), List.mem_of_getElem? (i := 343) (by decide +kernel), List.mem_of_getElem? (i := 344) (by decide +kernel)⟩
theorem lw_p8 : lw_okq (⟨"StabilitySums", "work", "(I)V"⟩, 10) := ⟨⟨by decide +kernel, by decide +kernel⟩, List.mem_of_getElem? (i := 20) (by decide +kernel), List.mem_of_getElem? (i := 347) (by decide +kernel), List.mem_of_getElem? (i := 348) (by decide +kernel)⟩
theorem lw_p9 : lw_okq (⟨"StabilitySums", "findPumping", "()J"⟩, 10) := ⟨⟨by decide +kernel, by decide +kernel⟩, List.mem_of_getElem? (i := 20) (by decide +kernel), List.mem_of_getElem? (i := 373) (by decide +kernel), List.mem_of_getElem? (i := 374) (by decide +kernel)⟩
theorem lw_p10 : lw_okq (⟨"StabilitySums", "trySetting", "(I)V"⟩, 10) := ⟨⟨by decide +kernel, by decide +kernel⟩, List.mem_of_getElem? (i := 20) (by decide +kernel), List.mem_of_getElem? (i := 378) (by decide +kernel), List.mem_of_getElem? (i := 379) (by decide +kernel)⟩
theorem lw_p11 : lw_okq (⟨"StabilitySums", "tryStep", "(I)V"⟩, 10) := ⟨⟨by decide +kernel, by decide +kernel⟩, List.mem_of_getElem? (i := 20) (by decide +kernel), List.mem_of_getElem? (i := 398) (by decide +kernel), List.mem_of_getElem? (i := 399) (by decide +kernel)⟩
theorem lw_p12 : lw_okq (⟨"java/lang/Throwable", "fillInStackTrace", "(I)Ljava/lang/Throwable;"⟩, 6) := ⟨⟨by decide +kernel, by decide +kernel⟩, List.mem_of_getElem? (i := 463) (by decide +kernel), List.mem_of_getElem? (i := 461) (by decide +kernel), List.mem_of_getElem? (i := 462) (by decide +kernel)⟩
theorem lw_p13 : lw_okq (⟨"StabilitySumsModel", "present", "()V"⟩, 33) := ⟨⟨by decide +kernel, by decide +kernel⟩, List.mem_of_getElem? (i := 664) (by decide +kernel), List.mem_of_getElem? (i := 779) (by decide +kernel), List.mem_of_getElem? (i := 780) (by decide +kernel)⟩
theorem lw_p14 : lw_okq (⟨"StabilitySumsModel", "sum", "(I)J"⟩, 33) := ⟨⟨by decide +kernel, by decide +kernel⟩, List.mem_of_getElem? (i := 664) (by decide +kernel), List.mem_of_getElem? (i := 786) (by decide +kernel), List.mem_of_getElem? (i := 787) (by decide +kernel)⟩
theorem lw_p15 : lw_okq (⟨"StabilitySumsModel", "reckon", "(I)V"⟩, 33) := ⟨⟨by decide +kernel, by decide +kernel⟩, List.mem_of_getElem? (i := 664) (by decide +kernel), List.mem_of_getElem? (i := 790) (by decide +kernel), List.mem_of_getElem? (i := 791) (by decide +kernel)⟩
def lw_privs_1 : List (MethodName × Nat) := [(⟨"StabilitySums", "gather", "()V"⟩, 10), (⟨"StabilitySums", "tryMore", "(IJ)V"⟩, 10), (⟨"StabilitySums", "tryFilling", "(IJ)V"⟩, 10), (⟨"StabilitySums", "leastBroken", "()I"⟩, 10), (⟨"StabilitySums", "breaks", "(I)Z"⟩, 10), (⟨"StabilitySums", "shearAt", "(I)J"⟩, 10), (⟨"StabilitySums", "bendingAt", "(I)J"⟩, 10), (⟨"StabilitySums", "isWithoutAnswer", "(I)Z"⟩, 10), (⟨"StabilitySums", "work", "(I)V"⟩, 10), (⟨"StabilitySums", "findPumping", "()J"⟩, 10), (⟨"StabilitySums", "trySetting", "(I)V"⟩, 10), (⟨"StabilitySums", "tryStep", "(I)V"⟩, 10), (⟨"java/lang/Throwable", "fillInStackTrace", "(I)Ljava/lang/Throwable;"⟩, 6), (⟨"StabilitySumsModel", "present", "()V"⟩, 33), (⟨"StabilitySumsModel", "sum", "(I)J"⟩, 33), (⟨"StabilitySumsModel", "reckon", "(I)V"⟩, 33)]
theorem lw_r1 : ∀ q ∈ lw_privs_1, lw_okq q := List.forall_mem_cons.mpr ⟨lw_p0, List.forall_mem_cons.mpr ⟨lw_p1, List.forall_mem_cons.mpr ⟨lw_p2, List.forall_mem_cons.mpr ⟨lw_p3, List.forall_mem_cons.mpr ⟨lw_p4, List.forall_mem_cons.mpr ⟨lw_p5, List.forall_mem_cons.mpr ⟨lw_p6, List.forall_mem_cons.mpr ⟨lw_p7, List.forall_mem_cons.mpr ⟨lw_p8, List.forall_mem_cons.mpr ⟨lw_p9, List.forall_mem_cons.mpr ⟨lw_p10, List.forall_mem_cons.mpr ⟨lw_p11, List.forall_mem_cons.mpr ⟨lw_p12, List.forall_mem_cons.mpr ⟨lw_p13, List.forall_mem_cons.mpr ⟨lw_p14, List.forall_mem_cons.mpr ⟨lw_p15, fun _ h => absurd h List.not_mem_nil⟩⟩⟩⟩⟩⟩⟩⟩⟩⟩⟩⟩⟩⟩⟩⟩
theorem lw_p16 : lw_okq (⟨"StabilitySumsModel", "free", "()J"⟩, 33) := ⟨⟨by decide +kernel, by decide +kernel⟩, List.mem_of_getElem? (i := 664) (by decide +kernel), List.mem_of_getElem? (i := 794) (by decide +kernel), List.mem_of_getElem? (i := 795) (by decide +kernel)⟩
theorem lw_p17 : lw_okq (⟨"StabilitySumsModel", "table", "(JZ)V"⟩, 33) := ⟨⟨by decide +kernel, by decide +kernel⟩, List.mem_of_getElem? (i := 664) (by decide +kernel), List.mem_of_getElem? (i := 798) (by decide +kernel), List.mem_of_getElem? (i := 799) (by decide +kernel)⟩
theorem lw_p18 : lw_okq (⟨"StabilitySumsModel", "fails", "(I)I"⟩, 33) := ⟨⟨by decide +kernel, by decide +kernel⟩, List.mem_of_getElem? (i := 664) (by decide +kernel), List.mem_of_getElem? (i := 820) (by decide +kernel), List.mem_of_getElem? (i := 821) (by decide +kernel)⟩
theorem lw_p19 : lw_okq (⟨"StabilitySumsModel", "shearAt", "(J)J"⟩, 33) := ⟨⟨by decide +kernel, by decide +kernel⟩, List.mem_of_getElem? (i := 664) (by decide +kernel), List.mem_of_getElem? (i := 824) (by decide +kernel), List.mem_of_getElem? (i := 825) (by decide +kernel)⟩
theorem lw_p20 : lw_okq (⟨"StabilitySumsModel", "bendingAt", "(J)J"⟩, 33) := ⟨⟨by decide +kernel, by decide +kernel⟩, List.mem_of_getElem? (i := 664) (by decide +kernel), List.mem_of_getElem? (i := 832) (by decide +kernel), List.mem_of_getElem? (i := 833) (by decide +kernel)⟩
theorem lw_p21 : lw_okq (⟨"StabilitySumsModel", "isTankThere", "(I)Z"⟩, 33) := ⟨⟨by decide +kernel, by decide +kernel⟩, List.mem_of_getElem? (i := 664) (by decide +kernel), List.mem_of_getElem? (i := 853) (by decide +kernel), List.mem_of_getElem? (i := 854) (by decide +kernel)⟩
theorem lw_p22 : lw_okq (⟨"StabilitySumsModel", "broken0", "()I"⟩, 33) := ⟨⟨by decide +kernel, by decide +kernel⟩, List.mem_of_getElem? (i := 664) (by decide +kernel), List.mem_of_getElem? (i := 875) (by decide +kernel), List.mem_of_getElem? (i := 876) (by decide +kernel)⟩
theorem lw_p23 : lw_okq (⟨"StabilitySumsModel", "isBroken", "(I)Z"⟩, 33) := ⟨⟨by decide +kernel, by decide +kernel⟩, List.mem_of_getElem? (i := 664) (by decide +kernel), List.mem_of_getElem? (i := 879) (by decide +kernel), List.mem_of_getElem? (i := 880) (by decide +kernel)⟩
theorem lw_p24 : lw_okq (⟨"StabilitySumsModel", "pump", "()J"⟩, 33) := ⟨⟨by decide +kernel, by decide +kernel⟩, List.mem_of_getElem? (i := 664) (by decide +kernel), List.mem_of_getElem? (i := 887) (by decide +kernel), List.mem_of_getElem? (i := 888) (by decide +kernel)⟩
theorem lw_p25 : lw_okq (⟨"StabilitySumsModel", "brokenBehind", "(I)I"⟩, 33) := ⟨⟨by decide +kernel, by decide +kernel⟩, List.mem_of_getElem? (i := 664) (by decide +kernel), List.mem_of_getElem? (i := 904) (by decide +kernel), List.mem_of_getElem? (i := 905) (by decide +kernel)⟩
def lw_privs_2 : List (MethodName × Nat) := [(⟨"StabilitySumsModel", "free", "()J"⟩, 33), (⟨"StabilitySumsModel", "table", "(JZ)V"⟩, 33), (⟨"StabilitySumsModel", "fails", "(I)I"⟩, 33), (⟨"StabilitySumsModel", "shearAt", "(J)J"⟩, 33), (⟨"StabilitySumsModel", "bendingAt", "(J)J"⟩, 33), (⟨"StabilitySumsModel", "isTankThere", "(I)Z"⟩, 33), (⟨"StabilitySumsModel", "broken0", "()I"⟩, 33), (⟨"StabilitySumsModel", "isBroken", "(I)Z"⟩, 33), (⟨"StabilitySumsModel", "pump", "()J"⟩, 33), (⟨"StabilitySumsModel", "brokenBehind", "(I)I"⟩, 33)]
theorem lw_r2 : ∀ q ∈ lw_privs_2, lw_okq q := List.forall_mem_cons.mpr ⟨lw_p16, List.forall_mem_cons.mpr ⟨lw_p17, List.forall_mem_cons.mpr ⟨lw_p18, List.forall_mem_cons.mpr ⟨lw_p19, List.forall_mem_cons.mpr ⟨lw_p20, List.forall_mem_cons.mpr ⟨lw_p21, List.forall_mem_cons.mpr ⟨lw_p22, List.forall_mem_cons.mpr ⟨lw_p23, List.forall_mem_cons.mpr ⟨lw_p24, List.forall_mem_cons.mpr ⟨lw_p25, fun _ h => absurd h List.not_mem_nil⟩⟩⟩⟩⟩⟩⟩⟩⟩⟩
def lw_privs : List (MethodName × Nat) := lw_privs_1 ++ (lw_privs_2)
def lw_tbl : List Cond := k2_sels lw_privs ++ tables_1
theorem lw_privs_ok : ∀ q ∈ lw_privs, lw_okq q := by
  show ∀ q ∈ lw_privs_1 ++ (lw_privs_2), lw_okq q
  exact List.forall_mem_append.mpr ⟨lw_r1, lw_r2⟩
def UW : List Cond := lw_tbl.filter goodWord
theorem uw_at (k : Nat) {w : Cond} (h : lw_tbl[k]? = some w) (g : goodWord w = true) : w ∈ UW := List.mem_filter.mpr ⟨List.mem_of_getElem? h, g⟩
theorem uw_good : ∀ w ∈ UW, (w.onTables && w.keeps) = true ∨ ∃ ty, w = .arrayClass ty := fun w h => good_of_word (List.mem_filter.mp h).2
theorem uw_tbl : ∀ w ∈ UW, w ∈ lw_tbl := fun w h => (List.mem_filter.mp h).1
theorem uw_0 : Cond.selects "StabilitySums" ⟨"StabilitySums", "gather", "()V"⟩ ⟨"StabilitySums", "gather", "()V"⟩ ∈ UW := uw_at 0 (by decide +kernel) rfl
theorem uw_1 : Cond.selects "StabilitySums" ⟨"StabilitySums", "tryMore", "(IJ)V"⟩ ⟨"StabilitySums", "tryMore", "(IJ)V"⟩ ∈ UW := uw_at 1 (by decide +kernel) rfl
theorem uw_2 : Cond.selects "StabilitySums" ⟨"StabilitySums", "tryFilling", "(IJ)V"⟩ ⟨"StabilitySums", "tryFilling", "(IJ)V"⟩ ∈ UW := uw_at 2 (by decide +kernel) rfl
theorem uw_3 : Cond.selects "StabilitySums" ⟨"StabilitySums", "leastBroken", "()I"⟩ ⟨"StabilitySums", "leastBroken", "()I"⟩ ∈ UW := uw_at 3 (by decide +kernel) rfl
theorem uw_4 : Cond.selects "StabilitySums" ⟨"StabilitySums", "breaks", "(I)Z"⟩ ⟨"StabilitySums", "breaks", "(I)Z"⟩ ∈ UW := uw_at 4 (by decide +kernel) rfl
theorem uw_5 : Cond.selects "StabilitySums" ⟨"StabilitySums", "shearAt", "(I)J"⟩ ⟨"StabilitySums", "shearAt", "(I)J"⟩ ∈ UW := uw_at 5 (by decide +kernel) rfl
theorem uw_6 : Cond.selects "StabilitySums" ⟨"StabilitySums", "bendingAt", "(I)J"⟩ ⟨"StabilitySums", "bendingAt", "(I)J"⟩ ∈ UW := uw_at 6 (by decide +kernel) rfl
theorem uw_7 : Cond.selects "StabilitySums" ⟨"StabilitySums", "isWithoutAnswer", "(I)Z"⟩ ⟨"StabilitySums", "isWithoutAnswer", "(I)Z"⟩ ∈ UW := uw_at 7 (by decide +kernel) rfl
theorem uw_8 : Cond.selects "StabilitySums" ⟨"StabilitySums", "work", "(I)V"⟩ ⟨"StabilitySums", "work", "(I)V"⟩ ∈ UW := uw_at 8 (by decide +kernel) rfl
theorem uw_9 : Cond.selects "StabilitySums" ⟨"StabilitySums", "findPumping", "()J"⟩ ⟨"StabilitySums", "findPumping", "()J"⟩ ∈ UW := uw_at 9 (by decide +kernel) rfl
theorem uw_10 : Cond.selects "StabilitySums" ⟨"StabilitySums", "trySetting", "(I)V"⟩ ⟨"StabilitySums", "trySetting", "(I)V"⟩ ∈ UW := uw_at 10 (by decide +kernel) rfl
theorem uw_11 : Cond.selects "StabilitySums" ⟨"StabilitySums", "tryStep", "(I)V"⟩ ⟨"StabilitySums", "tryStep", "(I)V"⟩ ∈ UW := uw_at 11 (by decide +kernel) rfl
theorem uw_13 : Cond.selects "StabilitySumsModel" ⟨"StabilitySumsModel", "present", "()V"⟩ ⟨"StabilitySumsModel", "present", "()V"⟩ ∈ UW := uw_at 13 (by decide +kernel) rfl
theorem uw_14 : Cond.selects "StabilitySumsModel" ⟨"StabilitySumsModel", "sum", "(I)J"⟩ ⟨"StabilitySumsModel", "sum", "(I)J"⟩ ∈ UW := uw_at 14 (by decide +kernel) rfl
theorem uw_15 : Cond.selects "StabilitySumsModel" ⟨"StabilitySumsModel", "reckon", "(I)V"⟩ ⟨"StabilitySumsModel", "reckon", "(I)V"⟩ ∈ UW := uw_at 15 (by decide +kernel) rfl
theorem uw_16 : Cond.selects "StabilitySumsModel" ⟨"StabilitySumsModel", "free", "()J"⟩ ⟨"StabilitySumsModel", "free", "()J"⟩ ∈ UW := uw_at 16 (by decide +kernel) rfl
theorem uw_17 : Cond.selects "StabilitySumsModel" ⟨"StabilitySumsModel", "table", "(JZ)V"⟩ ⟨"StabilitySumsModel", "table", "(JZ)V"⟩ ∈ UW := uw_at 17 (by decide +kernel) rfl
theorem uw_18 : Cond.selects "StabilitySumsModel" ⟨"StabilitySumsModel", "fails", "(I)I"⟩ ⟨"StabilitySumsModel", "fails", "(I)I"⟩ ∈ UW := uw_at 18 (by decide +kernel) rfl
theorem uw_19 : Cond.selects "StabilitySumsModel" ⟨"StabilitySumsModel", "shearAt", "(J)J"⟩ ⟨"StabilitySumsModel", "shearAt", "(J)J"⟩ ∈ UW := uw_at 19 (by decide +kernel) rfl
theorem uw_20 : Cond.selects "StabilitySumsModel" ⟨"StabilitySumsModel", "bendingAt", "(J)J"⟩ ⟨"StabilitySumsModel", "bendingAt", "(J)J"⟩ ∈ UW := uw_at 20 (by decide +kernel) rfl
theorem uw_21 : Cond.selects "StabilitySumsModel" ⟨"StabilitySumsModel", "isTankThere", "(I)Z"⟩ ⟨"StabilitySumsModel", "isTankThere", "(I)Z"⟩ ∈ UW := uw_at 21 (by decide +kernel) rfl
theorem uw_22 : Cond.selects "StabilitySumsModel" ⟨"StabilitySumsModel", "broken0", "()I"⟩ ⟨"StabilitySumsModel", "broken0", "()I"⟩ ∈ UW := uw_at 22 (by decide +kernel) rfl
theorem uw_23 : Cond.selects "StabilitySumsModel" ⟨"StabilitySumsModel", "isBroken", "(I)Z"⟩ ⟨"StabilitySumsModel", "isBroken", "(I)Z"⟩ ∈ UW := uw_at 23 (by decide +kernel) rfl
theorem uw_24 : Cond.selects "StabilitySumsModel" ⟨"StabilitySumsModel", "pump", "()J"⟩ ⟨"StabilitySumsModel", "pump", "()J"⟩ ∈ UW := uw_at 24 (by decide +kernel) rfl
theorem uw_25 : Cond.selects "StabilitySumsModel" ⟨"StabilitySumsModel", "brokenBehind", "(I)I"⟩ ⟨"StabilitySumsModel", "brokenBehind", "(I)I"⟩ ∈ UW := uw_at 25 (by decide +kernel) rfl
theorem uw_26 : (Jvm.Cond.initialized "StabilitySumsLaw") ∈ UW := uw_at 26 (by decide +kernel) rfl
theorem uw_27 : (Jvm.Cond.initialized "StabilitySums") ∈ UW := uw_at 27 (by decide +kernel) rfl
theorem uw_28 : (Jvm.Cond.initialized "StabilitySums$Weights") ∈ UW := uw_at 28 (by decide +kernel) rfl
theorem uw_29 : (Jvm.Cond.initialized "StabilitySums$Tanks") ∈ UW := uw_at 29 (by decide +kernel) rfl
theorem uw_30 : (Jvm.Cond.initialized "StabilitySums$Table") ∈ UW := uw_at 30 (by decide +kernel) rfl
theorem uw_31 : (Jvm.Cond.initialized "StabilitySums$Limits") ∈ UW := uw_at 31 (by decide +kernel) rfl
theorem uw_32 : (Jvm.Cond.initialized "StabilitySums$Steps") ∈ UW := uw_at 32 (by decide +kernel) rfl
theorem uw_33 : (Jvm.Cond.initialized "StabilitySums$Sums") ∈ UW := uw_at 33 (by decide +kernel) rfl
theorem uw_34 : (Jvm.Cond.initialized "StabilitySums$Cuts") ∈ UW := uw_at 34 (by decide +kernel) rfl
theorem uw_35 : (Jvm.Cond.initialized "StabilitySums$Fraction") ∈ UW := uw_at 35 (by decide +kernel) rfl
theorem uw_36 : (Jvm.Cond.initialized "StabilitySumsModel") ∈ UW := uw_at 36 (by decide +kernel) rfl
theorem uw_37 : (Jvm.Cond.initialized "java/lang/Throwable") ∈ UW := uw_at 37 (by decide +kernel) rfl
theorem uw_38 : (Jvm.Cond.initialized "java/lang/Exception") ∈ UW := uw_at 38 (by decide +kernel) rfl
theorem uw_39 : (Jvm.Cond.initialized "java/lang/RuntimeException") ∈ UW := uw_at 39 (by decide +kernel) rfl
theorem uw_40 : (Jvm.Cond.initialized "java/lang/IllegalArgumentException") ∈ UW := uw_at 40 (by decide +kernel) rfl
theorem uw_41 : (Jvm.Cond.initialized "java/lang/IllegalStateException") ∈ UW := uw_at 41 (by decide +kernel) rfl
theorem uw_42 : (Jvm.Cond.initialized "java/lang/IndexOutOfBoundsException") ∈ UW := uw_at 42 (by decide +kernel) rfl
theorem uw_43 : (Jvm.Cond.initialized "java/lang/Math") ∈ UW := uw_at 43 (by decide +kernel) rfl
theorem uw_44 : (Jvm.Cond.initialized "java/lang/ArithmeticException") ∈ UW := uw_at 44 (by decide +kernel) rfl
theorem uw_45 : (Jvm.Cond.classLink "StabilitySumsLaw" (8 : Nat) "StabilitySums") ∈ UW := uw_at 45 (by decide +kernel) rfl
theorem uw_46 : (Jvm.Cond.instantiable "StabilitySums" (10 : Nat)) ∈ UW := uw_at 46 (by decide +kernel) rfl
theorem uw_47 : (Jvm.Cond.methodLink "StabilitySumsLaw" (60 : Nat) ({ cls := "StabilitySums", name := "<init>", desc := "()V" } : Jvm.MethodName)) ∈ UW := uw_at 47 (by decide +kernel) rfl
theorem uw_48 : (Jvm.Cond.instanceMethod ({ cls := "StabilitySums", name := "<init>", desc := "()V" } : Jvm.MethodName)) ∈ UW := uw_at 48 (by decide +kernel) rfl
set_option maxRecDepth 100000 in
theorem uw_49 : (Jvm.Cond.code ({ cls := "StabilitySums", name := "<init>", desc := "()V" } : Jvm.MethodName) prog_1_method_1_code (1 : Nat) (Option.none : Option Jvm.ClassFile.FieldType)) ∈ UW := uw_at 49 rfl rfl
theorem uw_50 : (Jvm.Cond.methodLink "StabilitySums" (1 : Nat) ({ cls := "java/lang/Object", name := "<init>", desc := "()V" } : Jvm.MethodName)) ∈ UW := uw_at 50 (by decide +kernel) rfl
theorem uw_51 : (Jvm.Cond.instanceMethod ({ cls := "java/lang/Object", name := "<init>", desc := "()V" } : Jvm.MethodName)) ∈ UW := uw_at 51 (by decide +kernel) rfl
set_option maxRecDepth 100000 in
theorem uw_52 : (Jvm.Cond.code ({ cls := "java/lang/Object", name := "<init>", desc := "()V" } : Jvm.MethodName) object_method_1_code (1 : Nat) (Option.none : Option Jvm.ClassFile.FieldType)) ∈ UW := uw_at 52 rfl rfl
theorem uw_53 : (Jvm.Cond.classLink "StabilitySums" (7 : Nat) "StabilitySums$Weights") ∈ UW := uw_at 53 (by decide +kernel) rfl
theorem uw_54 : (Jvm.Cond.instantiable "StabilitySums$Weights" (5 : Nat)) ∈ UW := uw_at 54 (by decide +kernel) rfl
theorem uw_56 : (Jvm.Cond.instanceMethod ({ cls := "StabilitySums$Weights", name := "<init>", desc := "()V" } : Jvm.MethodName)) ∈ UW := uw_at 56 (by decide +kernel) rfl
set_option maxRecDepth 100000 in
theorem uw_57 : (Jvm.Cond.code ({ cls := "StabilitySums$Weights", name := "<init>", desc := "()V" } : Jvm.MethodName) prog_9_method_1_code (1 : Nat) (Option.none : Option Jvm.ClassFile.FieldType)) ∈ UW := uw_at 57 rfl rfl
theorem uw_58 : (Jvm.Cond.methodLink "StabilitySums$Weights" (3 : Nat) ({ cls := "java/lang/Object", name := "<init>", desc := "()V" } : Jvm.MethodName)) ∈ UW := uw_at 58 (by decide +kernel) rfl
theorem uw_59 : (Jvm.Cond.fieldLink "StabilitySums$Weights" (9 : Nat) "StabilitySums$Weights" "kg" "[J") ∈ UW := uw_at 59 (by decide +kernel) rfl
theorem uw_60 : (Jvm.Cond.fieldLink "StabilitySums" (252 : Nat) "StabilitySums$Weights" "kg" "[J") ∈ UW := uw_at 60 (by decide +kernel) rfl
theorem uw_61 : (Jvm.Cond.fieldLink "StabilitySums$Weights" (15 : Nat) "StabilitySums$Weights" "x" "[J") ∈ UW := uw_at 61 (by decide +kernel) rfl
theorem uw_62 : (Jvm.Cond.fieldLink "StabilitySums" (265 : Nat) "StabilitySums$Weights" "x" "[J") ∈ UW := uw_at 62 (by decide +kernel) rfl
theorem uw_63 : (Jvm.Cond.fieldLink "StabilitySums$Weights" (18 : Nat) "StabilitySums$Weights" "y" "[J") ∈ UW := uw_at 63 (by decide +kernel) rfl
theorem uw_64 : (Jvm.Cond.fieldLink "StabilitySums" (268 : Nat) "StabilitySums$Weights" "y" "[J") ∈ UW := uw_at 64 (by decide +kernel) rfl
theorem uw_65 : (Jvm.Cond.fieldLink "StabilitySums$Weights" (21 : Nat) "StabilitySums$Weights" "z" "[J") ∈ UW := uw_at 65 (by decide +kernel) rfl
theorem uw_66 : (Jvm.Cond.fieldLink "StabilitySums" (271 : Nat) "StabilitySums$Weights" "z" "[J") ∈ UW := uw_at 66 (by decide +kernel) rfl
theorem uw_67 : (Jvm.Cond.fieldLink "StabilitySums$Weights" (24 : Nat) "StabilitySums$Weights" "count" "I") ∈ UW := uw_at 67 (by decide +kernel) rfl
theorem uw_68 : (Jvm.Cond.fieldLink "StabilitySums" (92 : Nat) "StabilitySums$Weights" "count" "I") ∈ UW := uw_at 68 (by decide +kernel) rfl
theorem uw_69 : (Jvm.Cond.laysFinal "StabilitySums$Weights" "StabilitySums$Weights" "kg" "[J") ∈ UW := uw_at 69 (by decide +kernel) rfl
theorem uw_71 : (Jvm.Cond.laysFinal "StabilitySums$Weights" "StabilitySums$Weights" "x" "[J") ∈ UW := uw_at 71 (by decide +kernel) rfl
theorem uw_73 : (Jvm.Cond.laysFinal "StabilitySums$Weights" "StabilitySums$Weights" "y" "[J") ∈ UW := uw_at 73 (by decide +kernel) rfl
theorem uw_75 : (Jvm.Cond.laysFinal "StabilitySums$Weights" "StabilitySums$Weights" "z" "[J") ∈ UW := uw_at 75 (by decide +kernel) rfl
theorem uw_77 : (Jvm.Cond.lays "StabilitySums$Weights" "StabilitySums$Weights" "count" "I") ∈ UW := uw_at 77 (by decide +kernel) rfl
theorem uw_80 : (Jvm.Cond.arrayClass Jvm.ClassFile.FieldType.long) ∈ UW := uw_at 80 (by decide +kernel) rfl
theorem uw_81 : (Jvm.Cond.classLink "StabilitySums" (16 : Nat) "StabilitySums$Tanks") ∈ UW := uw_at 81 (by decide +kernel) rfl
theorem uw_82 : (Jvm.Cond.instantiable "StabilitySums$Tanks" (9 : Nat)) ∈ UW := uw_at 82 (by decide +kernel) rfl
theorem uw_84 : (Jvm.Cond.instanceMethod ({ cls := "StabilitySums$Tanks", name := "<init>", desc := "()V" } : Jvm.MethodName)) ∈ UW := uw_at 84 (by decide +kernel) rfl
set_option maxRecDepth 100000 in
theorem uw_85 : (Jvm.Cond.code ({ cls := "StabilitySums$Tanks", name := "<init>", desc := "()V" } : Jvm.MethodName) prog_8_method_1_code (1 : Nat) (Option.none : Option Jvm.ClassFile.FieldType)) ∈ UW := uw_at 85 rfl rfl
theorem uw_86 : (Jvm.Cond.methodLink "StabilitySums$Tanks" (3 : Nat) ({ cls := "java/lang/Object", name := "<init>", desc := "()V" } : Jvm.MethodName)) ∈ UW := uw_at 86 (by decide +kernel) rfl
theorem uw_87 : (Jvm.Cond.fieldLink "StabilitySums$Tanks" (9 : Nat) "StabilitySums$Tanks" "most" "[J") ∈ UW := uw_at 87 (by decide +kernel) rfl
theorem uw_88 : (Jvm.Cond.fieldLink "StabilitySums" (124 : Nat) "StabilitySums$Tanks" "most" "[J") ∈ UW := uw_at 88 (by decide +kernel) rfl
theorem uw_89 : (Jvm.Cond.fieldLink "StabilitySums$Tanks" (15 : Nat) "StabilitySums$Tanks" "surface" "[J") ∈ UW := uw_at 89 (by decide +kernel) rfl
theorem uw_90 : (Jvm.Cond.fieldLink "StabilitySums$Tanks" (18 : Nat) "StabilitySums$Tanks" "x" "[J") ∈ UW := uw_at 90 (by decide +kernel) rfl
theorem uw_91 : (Jvm.Cond.fieldLink "StabilitySums" (288 : Nat) "StabilitySums$Tanks" "x" "[J") ∈ UW := uw_at 91 (by decide +kernel) rfl
theorem uw_92 : (Jvm.Cond.fieldLink "StabilitySums$Tanks" (21 : Nat) "StabilitySums$Tanks" "y" "[J") ∈ UW := uw_at 92 (by decide +kernel) rfl
theorem uw_93 : (Jvm.Cond.fieldLink "StabilitySums" (289 : Nat) "StabilitySums$Tanks" "y" "[J") ∈ UW := uw_at 93 (by decide +kernel) rfl
theorem uw_94 : (Jvm.Cond.fieldLink "StabilitySums$Tanks" (24 : Nat) "StabilitySums$Tanks" "z" "[J") ∈ UW := uw_at 94 (by decide +kernel) rfl
theorem uw_95 : (Jvm.Cond.fieldLink "StabilitySums" (290 : Nat) "StabilitySums$Tanks" "z" "[J") ∈ UW := uw_at 95 (by decide +kernel) rfl
theorem uw_96 : (Jvm.Cond.fieldLink "StabilitySums$Tanks" (27 : Nat) "StabilitySums$Tanks" "filled" "[J") ∈ UW := uw_at 96 (by decide +kernel) rfl
theorem uw_97 : (Jvm.Cond.fieldLink "StabilitySums" (128 : Nat) "StabilitySums$Tanks" "filled" "[J") ∈ UW := uw_at 97 (by decide +kernel) rfl
theorem uw_98 : (Jvm.Cond.fieldLink "StabilitySums$Tanks" (30 : Nat) "StabilitySums$Tanks" "tried" "[J") ∈ UW := uw_at 98 (by decide +kernel) rfl
theorem uw_99 : (Jvm.Cond.fieldLink "StabilitySums" (259 : Nat) "StabilitySums$Tanks" "tried" "[J") ∈ UW := uw_at 99 (by decide +kernel) rfl
theorem uw_100 : (Jvm.Cond.fieldLink "StabilitySums$Tanks" (33 : Nat) "StabilitySums$Tanks" "found" "[J") ∈ UW := uw_at 100 (by decide +kernel) rfl
theorem uw_101 : (Jvm.Cond.fieldLink "StabilitySums" (218 : Nat) "StabilitySums$Tanks" "found" "[J") ∈ UW := uw_at 101 (by decide +kernel) rfl
theorem uw_102 : (Jvm.Cond.fieldLink "StabilitySums$Tanks" (36 : Nat) "StabilitySums$Tanks" "count" "I") ∈ UW := uw_at 102 (by decide +kernel) rfl
theorem uw_103 : (Jvm.Cond.fieldLink "StabilitySums" (113 : Nat) "StabilitySums$Tanks" "count" "I") ∈ UW := uw_at 103 (by decide +kernel) rfl
theorem uw_104 : (Jvm.Cond.laysFinal "StabilitySums$Tanks" "StabilitySums$Tanks" "most" "[J") ∈ UW := uw_at 104 (by decide +kernel) rfl
theorem uw_106 : (Jvm.Cond.laysFinal "StabilitySums$Tanks" "StabilitySums$Tanks" "surface" "[J") ∈ UW := uw_at 106 (by decide +kernel) rfl
theorem uw_108 : (Jvm.Cond.laysFinal "StabilitySums$Tanks" "StabilitySums$Tanks" "x" "[J") ∈ UW := uw_at 108 (by decide +kernel) rfl
theorem uw_110 : (Jvm.Cond.laysFinal "StabilitySums$Tanks" "StabilitySums$Tanks" "y" "[J") ∈ UW := uw_at 110 (by decide +kernel) rfl
theorem uw_112 : (Jvm.Cond.laysFinal "StabilitySums$Tanks" "StabilitySums$Tanks" "z" "[J") ∈ UW := uw_at 112 (by decide +kernel) rfl
theorem uw_114 : (Jvm.Cond.laysFinal "StabilitySums$Tanks" "StabilitySums$Tanks" "filled" "[J") ∈ UW := uw_at 114 (by decide +kernel) rfl
theorem uw_116 : (Jvm.Cond.laysFinal "StabilitySums$Tanks" "StabilitySums$Tanks" "tried" "[J") ∈ UW := uw_at 116 (by decide +kernel) rfl
theorem uw_118 : (Jvm.Cond.laysFinal "StabilitySums$Tanks" "StabilitySums$Tanks" "found" "[J") ∈ UW := uw_at 118 (by decide +kernel) rfl
theorem uw_120 : (Jvm.Cond.lays "StabilitySums$Tanks" "StabilitySums$Tanks" "count" "I") ∈ UW := uw_at 120 (by decide +kernel) rfl
theorem uw_123 : (Jvm.Cond.classLink "StabilitySums" (23 : Nat) "StabilitySums$Table") ∈ UW := uw_at 123 (by decide +kernel) rfl
theorem uw_124 : (Jvm.Cond.instantiable "StabilitySums$Table" (4 : Nat)) ∈ UW := uw_at 124 (by decide +kernel) rfl
theorem uw_126 : (Jvm.Cond.instanceMethod ({ cls := "StabilitySums$Table", name := "<init>", desc := "()V" } : Jvm.MethodName)) ∈ UW := uw_at 126 (by decide +kernel) rfl
set_option maxRecDepth 100000 in
theorem uw_127 : (Jvm.Cond.code ({ cls := "StabilitySums$Table", name := "<init>", desc := "()V" } : Jvm.MethodName) prog_7_method_1_code (1 : Nat) (Option.none : Option Jvm.ClassFile.FieldType)) ∈ UW := uw_at 127 rfl rfl
theorem uw_128 : (Jvm.Cond.methodLink "StabilitySums$Table" (3 : Nat) ({ cls := "java/lang/Object", name := "<init>", desc := "()V" } : Jvm.MethodName)) ∈ UW := uw_at 128 (by decide +kernel) rfl
theorem uw_129 : (Jvm.Cond.fieldLink "StabilitySums$Table" (9 : Nat) "StabilitySums$Table" "displacement" "[J") ∈ UW := uw_at 129 (by decide +kernel) rfl
theorem uw_130 : (Jvm.Cond.fieldLink "StabilitySums$Table" (15 : Nat) "StabilitySums$Table" "height" "[J") ∈ UW := uw_at 130 (by decide +kernel) rfl
theorem uw_131 : (Jvm.Cond.fieldLink "StabilitySums" (312 : Nat) "StabilitySums$Table" "height" "[J") ∈ UW := uw_at 131 (by decide +kernel) rfl
theorem uw_132 : (Jvm.Cond.fieldLink "StabilitySums$Table" (18 : Nat) "StabilitySums$Table" "draft" "[J") ∈ UW := uw_at 132 (by decide +kernel) rfl
theorem uw_133 : (Jvm.Cond.fieldLink "StabilitySums" (319 : Nat) "StabilitySums$Table" "draft" "[J") ∈ UW := uw_at 133 (by decide +kernel) rfl
theorem uw_134 : (Jvm.Cond.fieldLink "StabilitySums$Table" (21 : Nat) "StabilitySums$Table" "count" "I") ∈ UW := uw_at 134 (by decide +kernel) rfl
theorem uw_135 : (Jvm.Cond.fieldLink "StabilitySums" (143 : Nat) "StabilitySums$Table" "count" "I") ∈ UW := uw_at 135 (by decide +kernel) rfl
theorem uw_136 : (Jvm.Cond.laysFinal "StabilitySums$Table" "StabilitySums$Table" "displacement" "[J") ∈ UW := uw_at 136 (by decide +kernel) rfl
theorem uw_138 : (Jvm.Cond.laysFinal "StabilitySums$Table" "StabilitySums$Table" "height" "[J") ∈ UW := uw_at 138 (by decide +kernel) rfl
theorem uw_140 : (Jvm.Cond.laysFinal "StabilitySums$Table" "StabilitySums$Table" "draft" "[J") ∈ UW := uw_at 140 (by decide +kernel) rfl
theorem uw_142 : (Jvm.Cond.lays "StabilitySums$Table" "StabilitySums$Table" "count" "I") ∈ UW := uw_at 142 (by decide +kernel) rfl
theorem uw_145 : (Jvm.Cond.classLink "StabilitySums" (30 : Nat) "StabilitySums$Limits") ∈ UW := uw_at 145 (by decide +kernel) rfl
theorem uw_146 : (Jvm.Cond.instantiable "StabilitySums$Limits" (4 : Nat)) ∈ UW := uw_at 146 (by decide +kernel) rfl
theorem uw_148 : (Jvm.Cond.instanceMethod ({ cls := "StabilitySums$Limits", name := "<init>", desc := "()V" } : Jvm.MethodName)) ∈ UW := uw_at 148 (by decide +kernel) rfl
set_option maxRecDepth 100000 in
theorem uw_149 : (Jvm.Cond.code ({ cls := "StabilitySums$Limits", name := "<init>", desc := "()V" } : Jvm.MethodName) prog_4_method_1_code (1 : Nat) (Option.none : Option Jvm.ClassFile.FieldType)) ∈ UW := uw_at 149 rfl rfl
theorem uw_150 : (Jvm.Cond.methodLink "StabilitySums$Limits" (3 : Nat) ({ cls := "java/lang/Object", name := "<init>", desc := "()V" } : Jvm.MethodName)) ∈ UW := uw_at 150 (by decide +kernel) rfl
theorem uw_151 : (Jvm.Cond.fieldLink "StabilitySums$Limits" (9 : Nat) "StabilitySums$Limits" "what" "[I") ∈ UW := uw_at 151 (by decide +kernel) rfl
theorem uw_152 : (Jvm.Cond.fieldLink "StabilitySums" (332 : Nat) "StabilitySums$Limits" "what" "[I") ∈ UW := uw_at 152 (by decide +kernel) rfl
theorem uw_153 : (Jvm.Cond.fieldLink "StabilitySums$Limits" (15 : Nat) "StabilitySums$Limits" "low" "[J") ∈ UW := uw_at 153 (by decide +kernel) rfl
theorem uw_154 : (Jvm.Cond.fieldLink "StabilitySums$Limits" (19 : Nat) "StabilitySums$Limits" "high" "[J") ∈ UW := uw_at 154 (by decide +kernel) rfl
theorem uw_155 : (Jvm.Cond.fieldLink "StabilitySums$Limits" (22 : Nat) "StabilitySums$Limits" "count" "I") ∈ UW := uw_at 155 (by decide +kernel) rfl
theorem uw_156 : (Jvm.Cond.fieldLink "StabilitySums" (203 : Nat) "StabilitySums$Limits" "count" "I") ∈ UW := uw_at 156 (by decide +kernel) rfl
theorem uw_157 : (Jvm.Cond.laysFinal "StabilitySums$Limits" "StabilitySums$Limits" "what" "[I") ∈ UW := uw_at 157 (by decide +kernel) rfl
theorem uw_159 : (Jvm.Cond.laysFinal "StabilitySums$Limits" "StabilitySums$Limits" "low" "[J") ∈ UW := uw_at 159 (by decide +kernel) rfl
theorem uw_161 : (Jvm.Cond.laysFinal "StabilitySums$Limits" "StabilitySums$Limits" "high" "[J") ∈ UW := uw_at 161 (by decide +kernel) rfl
theorem uw_163 : (Jvm.Cond.lays "StabilitySums$Limits" "StabilitySums$Limits" "count" "I") ∈ UW := uw_at 163 (by decide +kernel) rfl
theorem uw_166 : (Jvm.Cond.arrayClass Jvm.ClassFile.FieldType.int) ∈ UW := uw_at 166 (by decide +kernel) rfl
theorem uw_167 : (Jvm.Cond.classLink "StabilitySums" (37 : Nat) "StabilitySums$Steps") ∈ UW := uw_at 167 (by decide +kernel) rfl
theorem uw_168 : (Jvm.Cond.instantiable "StabilitySums$Steps" (4 : Nat)) ∈ UW := uw_at 168 (by decide +kernel) rfl
theorem uw_170 : (Jvm.Cond.instanceMethod ({ cls := "StabilitySums$Steps", name := "<init>", desc := "()V" } : Jvm.MethodName)) ∈ UW := uw_at 170 (by decide +kernel) rfl
set_option maxRecDepth 100000 in
theorem uw_171 : (Jvm.Cond.code ({ cls := "StabilitySums$Steps", name := "<init>", desc := "()V" } : Jvm.MethodName) prog_5_method_1_code (1 : Nat) (Option.none : Option Jvm.ClassFile.FieldType)) ∈ UW := uw_at 171 rfl rfl
theorem uw_172 : (Jvm.Cond.methodLink "StabilitySums$Steps" (3 : Nat) ({ cls := "java/lang/Object", name := "<init>", desc := "()V" } : Jvm.MethodName)) ∈ UW := uw_at 172 (by decide +kernel) rfl
theorem uw_173 : (Jvm.Cond.fieldLink "StabilitySums$Steps" (9 : Nat) "StabilitySums$Steps" "ofTank" "[Z") ∈ UW := uw_at 173 (by decide +kernel) rfl
theorem uw_174 : (Jvm.Cond.fieldLink "StabilitySums" (291 : Nat) "StabilitySums$Steps" "ofTank" "[Z") ∈ UW := uw_at 174 (by decide +kernel) rfl
theorem uw_175 : (Jvm.Cond.fieldLink "StabilitySums$Steps" (15 : Nat) "StabilitySums$Steps" "number" "[I") ∈ UW := uw_at 175 (by decide +kernel) rfl
theorem uw_176 : (Jvm.Cond.fieldLink "StabilitySums" (295 : Nat) "StabilitySums$Steps" "number" "[I") ∈ UW := uw_at 176 (by decide +kernel) rfl
theorem uw_177 : (Jvm.Cond.fieldLink "StabilitySums$Steps" (19 : Nat) "StabilitySums$Steps" "kg" "[J") ∈ UW := uw_at 177 (by decide +kernel) rfl
theorem uw_178 : (Jvm.Cond.fieldLink "StabilitySums" (299 : Nat) "StabilitySums$Steps" "kg" "[J") ∈ UW := uw_at 178 (by decide +kernel) rfl
theorem uw_179 : (Jvm.Cond.fieldLink "StabilitySums$Steps" (23 : Nat) "StabilitySums$Steps" "count" "I") ∈ UW := uw_at 179 (by decide +kernel) rfl
theorem uw_180 : (Jvm.Cond.fieldLink "StabilitySums" (225 : Nat) "StabilitySums$Steps" "count" "I") ∈ UW := uw_at 180 (by decide +kernel) rfl
theorem uw_181 : (Jvm.Cond.laysFinal "StabilitySums$Steps" "StabilitySums$Steps" "ofTank" "[Z") ∈ UW := uw_at 181 (by decide +kernel) rfl
theorem uw_183 : (Jvm.Cond.laysFinal "StabilitySums$Steps" "StabilitySums$Steps" "number" "[I") ∈ UW := uw_at 183 (by decide +kernel) rfl
theorem uw_185 : (Jvm.Cond.laysFinal "StabilitySums$Steps" "StabilitySums$Steps" "kg" "[J") ∈ UW := uw_at 185 (by decide +kernel) rfl
theorem uw_187 : (Jvm.Cond.lays "StabilitySums$Steps" "StabilitySums$Steps" "count" "I") ∈ UW := uw_at 187 (by decide +kernel) rfl
theorem uw_190 : (Jvm.Cond.arrayClass Jvm.ClassFile.FieldType.boolean) ∈ UW := uw_at 190 (by decide +kernel) rfl
theorem uw_191 : (Jvm.Cond.classLink "StabilitySums" (44 : Nat) "StabilitySums$Sums") ∈ UW := uw_at 191 (by decide +kernel) rfl
theorem uw_192 : (Jvm.Cond.instantiable "StabilitySums$Sums" (5 : Nat)) ∈ UW := uw_at 192 (by decide +kernel) rfl
theorem uw_194 : (Jvm.Cond.instanceMethod ({ cls := "StabilitySums$Sums", name := "<init>", desc := "()V" } : Jvm.MethodName)) ∈ UW := uw_at 194 (by decide +kernel) rfl
set_option maxRecDepth 100000 in
theorem uw_195 : (Jvm.Cond.code ({ cls := "StabilitySums$Sums", name := "<init>", desc := "()V" } : Jvm.MethodName) prog_6_method_1_code (1 : Nat) (Option.none : Option Jvm.ClassFile.FieldType)) ∈ UW := uw_at 195 rfl rfl
theorem uw_196 : (Jvm.Cond.methodLink "StabilitySums$Sums" (1 : Nat) ({ cls := "java/lang/Object", name := "<init>", desc := "()V" } : Jvm.MethodName)) ∈ UW := uw_at 196 (by decide +kernel) rfl
theorem uw_197 : (Jvm.Cond.fieldLink "StabilitySums$Sums" (7 : Nat) "StabilitySums$Sums" "displacement" "J") ∈ UW := uw_at 197 (by decide +kernel) rfl
theorem uw_198 : (Jvm.Cond.fieldLink "StabilitySums" (300 : Nat) "StabilitySums$Sums" "displacement" "J") ∈ UW := uw_at 198 (by decide +kernel) rfl
theorem uw_199 : (Jvm.Cond.fieldLink "StabilitySums$Sums" (13 : Nat) "StabilitySums$Sums" "x" "J") ∈ UW := uw_at 199 (by decide +kernel) rfl
theorem uw_200 : (Jvm.Cond.fieldLink "StabilitySums" (303 : Nat) "StabilitySums$Sums" "x" "J") ∈ UW := uw_at 200 (by decide +kernel) rfl
theorem uw_201 : (Jvm.Cond.fieldLink "StabilitySums$Sums" (16 : Nat) "StabilitySums$Sums" "y" "J") ∈ UW := uw_at 201 (by decide +kernel) rfl
theorem uw_202 : (Jvm.Cond.fieldLink "StabilitySums" (308 : Nat) "StabilitySums$Sums" "y" "J") ∈ UW := uw_at 202 (by decide +kernel) rfl
theorem uw_203 : (Jvm.Cond.fieldLink "StabilitySums$Sums" (19 : Nat) "StabilitySums$Sums" "z" "J") ∈ UW := uw_at 203 (by decide +kernel) rfl
theorem uw_204 : (Jvm.Cond.fieldLink "StabilitySums" (310 : Nat) "StabilitySums$Sums" "z" "J") ∈ UW := uw_at 204 (by decide +kernel) rfl
theorem uw_205 : (Jvm.Cond.fieldLink "StabilitySums$Sums" (22 : Nat) "StabilitySums$Sums" "surfaces" "J") ∈ UW := uw_at 205 (by decide +kernel) rfl
theorem uw_206 : (Jvm.Cond.fieldLink "StabilitySums" (281 : Nat) "StabilitySums$Sums" "surfaces" "J") ∈ UW := uw_at 206 (by decide +kernel) rfl
theorem uw_207 : (Jvm.Cond.lays "StabilitySums$Sums" "StabilitySums$Sums" "displacement" "J") ∈ UW := uw_at 207 (by decide +kernel) rfl
theorem uw_209 : (Jvm.Cond.lays "StabilitySums$Sums" "StabilitySums$Sums" "x" "J") ∈ UW := uw_at 209 (by decide +kernel) rfl
theorem uw_211 : (Jvm.Cond.lays "StabilitySums$Sums" "StabilitySums$Sums" "y" "J") ∈ UW := uw_at 211 (by decide +kernel) rfl
theorem uw_213 : (Jvm.Cond.lays "StabilitySums$Sums" "StabilitySums$Sums" "z" "J") ∈ UW := uw_at 213 (by decide +kernel) rfl
theorem uw_215 : (Jvm.Cond.lays "StabilitySums$Sums" "StabilitySums$Sums" "surfaces" "J") ∈ UW := uw_at 215 (by decide +kernel) rfl
theorem uw_218 : (Jvm.Cond.classLink "StabilitySums" (51 : Nat) "StabilitySums$Cuts") ∈ UW := uw_at 218 (by decide +kernel) rfl
theorem uw_219 : (Jvm.Cond.instantiable "StabilitySums$Cuts" (4 : Nat)) ∈ UW := uw_at 219 (by decide +kernel) rfl
theorem uw_221 : (Jvm.Cond.instanceMethod ({ cls := "StabilitySums$Cuts", name := "<init>", desc := "()V" } : Jvm.MethodName)) ∈ UW := uw_at 221 (by decide +kernel) rfl
set_option maxRecDepth 100000 in
theorem uw_222 : (Jvm.Cond.code ({ cls := "StabilitySums$Cuts", name := "<init>", desc := "()V" } : Jvm.MethodName) prog_2_method_1_code (1 : Nat) (Option.none : Option Jvm.ClassFile.FieldType)) ∈ UW := uw_at 222 rfl rfl
theorem uw_223 : (Jvm.Cond.methodLink "StabilitySums$Cuts" (3 : Nat) ({ cls := "java/lang/Object", name := "<init>", desc := "()V" } : Jvm.MethodName)) ∈ UW := uw_at 223 (by decide +kernel) rfl
theorem uw_224 : (Jvm.Cond.fieldLink "StabilitySums$Cuts" (9 : Nat) "StabilitySums$Cuts" "place" "[J") ∈ UW := uw_at 224 (by decide +kernel) rfl
theorem uw_225 : (Jvm.Cond.fieldLink "StabilitySums" (185 : Nat) "StabilitySums$Cuts" "place" "[J") ∈ UW := uw_at 225 (by decide +kernel) rfl
theorem uw_226 : (Jvm.Cond.fieldLink "StabilitySums$Cuts" (15 : Nat) "StabilitySums$Cuts" "kg" "[J") ∈ UW := uw_at 226 (by decide +kernel) rfl
theorem uw_227 : (Jvm.Cond.fieldLink "StabilitySums" (322 : Nat) "StabilitySums$Cuts" "kg" "[J") ∈ UW := uw_at 227 (by decide +kernel) rfl
theorem uw_228 : (Jvm.Cond.fieldLink "StabilitySums$Cuts" (18 : Nat) "StabilitySums$Cuts" "turn" "[J") ∈ UW := uw_at 228 (by decide +kernel) rfl
theorem uw_229 : (Jvm.Cond.fieldLink "StabilitySums" (326 : Nat) "StabilitySums$Cuts" "turn" "[J") ∈ UW := uw_at 229 (by decide +kernel) rfl
theorem uw_230 : (Jvm.Cond.fieldLink "StabilitySums$Cuts" (21 : Nat) "StabilitySums$Cuts" "last" "I") ∈ UW := uw_at 230 (by decide +kernel) rfl
theorem uw_231 : (Jvm.Cond.laysFinal "StabilitySums$Cuts" "StabilitySums$Cuts" "place" "[J") ∈ UW := uw_at 231 (by decide +kernel) rfl
theorem uw_233 : (Jvm.Cond.laysFinal "StabilitySums$Cuts" "StabilitySums$Cuts" "kg" "[J") ∈ UW := uw_at 233 (by decide +kernel) rfl
theorem uw_235 : (Jvm.Cond.laysFinal "StabilitySums$Cuts" "StabilitySums$Cuts" "turn" "[J") ∈ UW := uw_at 235 (by decide +kernel) rfl
theorem uw_237 : (Jvm.Cond.lays "StabilitySums$Cuts" "StabilitySums$Cuts" "last" "I") ∈ UW := uw_at 237 (by decide +kernel) rfl
theorem uw_240 : (Jvm.Cond.classLink "StabilitySums" (58 : Nat) "StabilitySums$Fraction") ∈ UW := uw_at 240 (by decide +kernel) rfl
theorem uw_241 : (Jvm.Cond.instantiable "StabilitySums$Fraction" (2 : Nat)) ∈ UW := uw_at 241 (by decide +kernel) rfl
theorem uw_243 : (Jvm.Cond.instanceMethod ({ cls := "StabilitySums$Fraction", name := "<init>", desc := "()V" } : Jvm.MethodName)) ∈ UW := uw_at 243 (by decide +kernel) rfl
set_option maxRecDepth 100000 in
theorem uw_244 : (Jvm.Cond.code ({ cls := "StabilitySums$Fraction", name := "<init>", desc := "()V" } : Jvm.MethodName) prog_3_method_1_code (1 : Nat) (Option.none : Option Jvm.ClassFile.FieldType)) ∈ UW := uw_at 244 rfl rfl
theorem uw_245 : (Jvm.Cond.methodLink "StabilitySums$Fraction" (1 : Nat) ({ cls := "java/lang/Object", name := "<init>", desc := "()V" } : Jvm.MethodName)) ∈ UW := uw_at 245 (by decide +kernel) rfl
theorem uw_246 : (Jvm.Cond.fieldLink "StabilitySums$Fraction" (7 : Nat) "StabilitySums$Fraction" "top" "J") ∈ UW := uw_at 246 (by decide +kernel) rfl
theorem uw_247 : (Jvm.Cond.fieldLink "StabilitySums" (177 : Nat) "StabilitySums$Fraction" "top" "J") ∈ UW := uw_at 247 (by decide +kernel) rfl
theorem uw_248 : (Jvm.Cond.fieldLink "StabilitySums$Fraction" (13 : Nat) "StabilitySums$Fraction" "bottom" "J") ∈ UW := uw_at 248 (by decide +kernel) rfl
theorem uw_249 : (Jvm.Cond.fieldLink "StabilitySums" (180 : Nat) "StabilitySums$Fraction" "bottom" "J") ∈ UW := uw_at 249 (by decide +kernel) rfl
theorem uw_250 : (Jvm.Cond.lays "StabilitySums$Fraction" "StabilitySums$Fraction" "top" "J") ∈ UW := uw_at 250 (by decide +kernel) rfl
theorem uw_252 : (Jvm.Cond.lays "StabilitySums$Fraction" "StabilitySums$Fraction" "bottom" "J") ∈ UW := uw_at 252 (by decide +kernel) rfl
theorem uw_255 : (Jvm.Cond.constantLong "StabilitySums" (69 : Nat) (10000 : Int64)) ∈ UW := uw_at 255 (by decide +kernel) rfl
theorem uw_256 : (Jvm.Cond.fieldLink "StabilitySums" (10 : Nat) "StabilitySums" "weights" "LStabilitySums$Weights;") ∈ UW := uw_at 256 (by decide +kernel) rfl
theorem uw_257 : (Jvm.Cond.fieldLink "StabilitySums" (19 : Nat) "StabilitySums" "tanks" "LStabilitySums$Tanks;") ∈ UW := uw_at 257 (by decide +kernel) rfl
theorem uw_258 : (Jvm.Cond.fieldLink "StabilitySums" (26 : Nat) "StabilitySums" "table" "LStabilitySums$Table;") ∈ UW := uw_at 258 (by decide +kernel) rfl
theorem uw_259 : (Jvm.Cond.fieldLink "StabilitySums" (33 : Nat) "StabilitySums" "limits" "LStabilitySums$Limits;") ∈ UW := uw_at 259 (by decide +kernel) rfl
theorem uw_260 : (Jvm.Cond.fieldLink "StabilitySums" (40 : Nat) "StabilitySums" "steps" "LStabilitySums$Steps;") ∈ UW := uw_at 260 (by decide +kernel) rfl
theorem uw_261 : (Jvm.Cond.fieldLink "StabilitySums" (47 : Nat) "StabilitySums" "sums" "LStabilitySums$Sums;") ∈ UW := uw_at 261 (by decide +kernel) rfl
theorem uw_262 : (Jvm.Cond.fieldLink "StabilitySums" (54 : Nat) "StabilitySums" "cuts" "LStabilitySums$Cuts;") ∈ UW := uw_at 262 (by decide +kernel) rfl
theorem uw_263 : (Jvm.Cond.fieldLink "StabilitySums" (61 : Nat) "StabilitySums" "fraction" "LStabilitySums$Fraction;") ∈ UW := uw_at 263 (by decide +kernel) rfl
theorem uw_264 : (Jvm.Cond.fieldLink "StabilitySums" (65 : Nat) "StabilitySums" "left" "J") ∈ UW := uw_at 264 (by decide +kernel) rfl
theorem uw_265 : (Jvm.Cond.fieldLink "StabilitySums" (71 : Nat) "StabilitySums" "right" "J") ∈ UW := uw_at 265 (by decide +kernel) rfl
theorem uw_266 : (Jvm.Cond.laysFinal "StabilitySums" "StabilitySums" "weights" "LStabilitySums$Weights;") ∈ UW := uw_at 266 (by decide +kernel) rfl
theorem uw_268 : (Jvm.Cond.laysFinal "StabilitySums" "StabilitySums" "tanks" "LStabilitySums$Tanks;") ∈ UW := uw_at 268 (by decide +kernel) rfl
theorem uw_270 : (Jvm.Cond.laysFinal "StabilitySums" "StabilitySums" "table" "LStabilitySums$Table;") ∈ UW := uw_at 270 (by decide +kernel) rfl
theorem uw_272 : (Jvm.Cond.laysFinal "StabilitySums" "StabilitySums" "limits" "LStabilitySums$Limits;") ∈ UW := uw_at 272 (by decide +kernel) rfl
theorem uw_274 : (Jvm.Cond.laysFinal "StabilitySums" "StabilitySums" "steps" "LStabilitySums$Steps;") ∈ UW := uw_at 274 (by decide +kernel) rfl
theorem uw_276 : (Jvm.Cond.laysFinal "StabilitySums" "StabilitySums" "sums" "LStabilitySums$Sums;") ∈ UW := uw_at 276 (by decide +kernel) rfl
theorem uw_278 : (Jvm.Cond.laysFinal "StabilitySums" "StabilitySums" "cuts" "LStabilitySums$Cuts;") ∈ UW := uw_at 278 (by decide +kernel) rfl
theorem uw_280 : (Jvm.Cond.laysFinal "StabilitySums" "StabilitySums" "fraction" "LStabilitySums$Fraction;") ∈ UW := uw_at 280 (by decide +kernel) rfl
theorem uw_282 : (Jvm.Cond.lays "StabilitySums" "StabilitySums" "left" "J") ∈ UW := uw_at 282 (by decide +kernel) rfl
theorem uw_284 : (Jvm.Cond.lays "StabilitySums" "StabilitySums" "right" "J") ∈ UW := uw_at 284 (by decide +kernel) rfl
theorem uw_287 : (Jvm.Cond.methodLink "StabilitySumsLaw" (88 : Nat) ({ cls := "StabilitySums", name := "hull", desc := "(JJ)Z" } : Jvm.MethodName)) ∈ UW := uw_at 287 (by decide +kernel) rfl
theorem uw_288 : (Jvm.Cond.instanceMethod ({ cls := "StabilitySums", name := "hull", desc := "(JJ)Z" } : Jvm.MethodName)) ∈ UW := uw_at 288 (by decide +kernel) rfl
theorem uw_289 : (Jvm.Cond.selects "StabilitySums" ({ cls := "StabilitySums", name := "hull", desc := "(JJ)Z" } : Jvm.MethodName) ({ cls := "StabilitySums", name := "hull", desc := "(JJ)Z" } : Jvm.MethodName)) ∈ UW := uw_at 289 (by decide +kernel) rfl
set_option maxRecDepth 100000 in
theorem uw_290 : (Jvm.Cond.code ({ cls := "StabilitySums", name := "hull", desc := "(JJ)Z" } : Jvm.MethodName) prog_1_method_6_code (5 : Nat) (Option.some Jvm.ClassFile.FieldType.boolean)) ∈ UW := uw_at 290 rfl rfl
theorem uw_291 : (Jvm.Cond.methodLink "StabilitySums" (133 : Nat) ({ cls := "StabilitySums", name := "isPlace", desc := "(J)Z" } : Jvm.MethodName)) ∈ UW := uw_at 291 (by decide +kernel) rfl
theorem uw_292 : (Jvm.Cond.static ({ cls := "StabilitySums", name := "isPlace", desc := "(J)Z" } : Jvm.MethodName)) ∈ UW := uw_at 292 (by decide +kernel) rfl
set_option maxRecDepth 100000 in
theorem uw_293 : (Jvm.Cond.code ({ cls := "StabilitySums", name := "isPlace", desc := "(J)Z" } : Jvm.MethodName) prog_1_method_19_code (2 : Nat) (Option.some Jvm.ClassFile.FieldType.boolean)) ∈ UW := uw_at 293 rfl rfl
theorem uw_294 : (Jvm.Cond.constantLong "StabilitySums" (239 : Nat) (-10000 : Int64)) ∈ UW := uw_at 294 (by decide +kernel) rfl
theorem uw_295 : (Jvm.Cond.methodLink "StabilitySums" (78 : Nat) ({ cls := "StabilitySums", name := "isWithin", desc := "(JJJ)Z" } : Jvm.MethodName)) ∈ UW := uw_at 295 (by decide +kernel) rfl
theorem uw_296 : (Jvm.Cond.static ({ cls := "StabilitySums", name := "isWithin", desc := "(JJJ)Z" } : Jvm.MethodName)) ∈ UW := uw_at 296 (by decide +kernel) rfl
set_option maxRecDepth 100000 in
theorem uw_297 : (Jvm.Cond.code ({ cls := "StabilitySums", name := "isWithin", desc := "(JJJ)Z" } : Jvm.MethodName) prog_1_method_18_code (6 : Nat) (Option.some Jvm.ClassFile.FieldType.boolean)) ∈ UW := uw_at 297 rfl rfl
theorem uw_298 : (Jvm.Cond.methodLink "StabilitySumsLaw" (108 : Nat) ({ cls := "StabilitySums", name := "check", desc := "()I" } : Jvm.MethodName)) ∈ UW := uw_at 298 (by decide +kernel) rfl
theorem uw_299 : (Jvm.Cond.instanceMethod ({ cls := "StabilitySums", name := "check", desc := "()I" } : Jvm.MethodName)) ∈ UW := uw_at 299 (by decide +kernel) rfl
theorem uw_300 : (Jvm.Cond.selects "StabilitySums" ({ cls := "StabilitySums", name := "check", desc := "()I" } : Jvm.MethodName) ({ cls := "StabilitySums", name := "check", desc := "()I" } : Jvm.MethodName)) ∈ UW := uw_at 300 (by decide +kernel) rfl
set_option maxRecDepth 100000 in
theorem uw_301 : (Jvm.Cond.code ({ cls := "StabilitySums", name := "check", desc := "()I" } : Jvm.MethodName) prog_1_method_11_code (1 : Nat) (Option.some Jvm.ClassFile.FieldType.int)) ∈ UW := uw_at 301 rfl rfl
theorem uw_302 : (Jvm.Cond.methodLink "StabilitySums" (155 : Nat) ({ cls := "StabilitySums", name := "gather", desc := "()V" } : Jvm.MethodName)) ∈ UW := uw_at 302 (by decide +kernel) rfl
theorem uw_304 : (Jvm.Cond.instanceMethod ({ cls := "StabilitySums", name := "gather", desc := "()V" } : Jvm.MethodName)) ∈ UW := uw_at 304 (by decide +kernel) rfl
set_option maxRecDepth 100000 in
theorem uw_305 : (Jvm.Cond.code ({ cls := "StabilitySums", name := "gather", desc := "()V" } : Jvm.MethodName) prog_1_method_22_code (2 : Nat) (Option.none : Option Jvm.ClassFile.FieldType)) ∈ UW := uw_at 305 rfl rfl
theorem uw_306 : (Jvm.Cond.methodLink "StabilitySums" (247 : Nat) ({ cls := "StabilitySums$Sums", name := "clear", desc := "()V" } : Jvm.MethodName)) ∈ UW := uw_at 306 (by decide +kernel) rfl
theorem uw_307 : (Jvm.Cond.instanceMethod ({ cls := "StabilitySums$Sums", name := "clear", desc := "()V" } : Jvm.MethodName)) ∈ UW := uw_at 307 (by decide +kernel) rfl
theorem uw_308 : (Jvm.Cond.selects "StabilitySums$Sums" ({ cls := "StabilitySums$Sums", name := "clear", desc := "()V" } : Jvm.MethodName) ({ cls := "StabilitySums$Sums", name := "clear", desc := "()V" } : Jvm.MethodName)) ∈ UW := uw_at 308 (by decide +kernel) rfl
set_option maxRecDepth 100000 in
theorem uw_309 : (Jvm.Cond.code ({ cls := "StabilitySums$Sums", name := "clear", desc := "()V" } : Jvm.MethodName) prog_6_method_2_code (1 : Nat) (Option.none : Option Jvm.ClassFile.FieldType)) ∈ UW := uw_at 309 rfl rfl
theorem uw_310 : (Jvm.Cond.methodLink "StabilitySums" (250 : Nat) ({ cls := "StabilitySums$Cuts", name := "clear", desc := "(I)V" } : Jvm.MethodName)) ∈ UW := uw_at 310 (by decide +kernel) rfl
theorem uw_311 : (Jvm.Cond.instanceMethod ({ cls := "StabilitySums$Cuts", name := "clear", desc := "(I)V" } : Jvm.MethodName)) ∈ UW := uw_at 311 (by decide +kernel) rfl
theorem uw_312 : (Jvm.Cond.selects "StabilitySums$Cuts" ({ cls := "StabilitySums$Cuts", name := "clear", desc := "(I)V" } : Jvm.MethodName) ({ cls := "StabilitySums$Cuts", name := "clear", desc := "(I)V" } : Jvm.MethodName)) ∈ UW := uw_at 312 (by decide +kernel) rfl
set_option maxRecDepth 100000 in
theorem uw_313 : (Jvm.Cond.code ({ cls := "StabilitySums$Cuts", name := "clear", desc := "(I)V" } : Jvm.MethodName) prog_2_method_2_code (3 : Nat) (Option.none : Option Jvm.ClassFile.FieldType)) ∈ UW := uw_at 313 rfl rfl
theorem uw_314 : (Jvm.Cond.methodLink "StabilitySums$Cuts" (25 : Nat) ({ cls := "java/lang/Math", name := "min", desc := "(II)I" } : Jvm.MethodName)) ∈ UW := uw_at 314 (by decide +kernel) rfl
theorem uw_315 : (Jvm.Cond.static ({ cls := "java/lang/Math", name := "min", desc := "(II)I" } : Jvm.MethodName)) ∈ UW := uw_at 315 (by decide +kernel) rfl
set_option maxRecDepth 100000 in
theorem uw_316 : (Jvm.Cond.code ({ cls := "java/lang/Math", name := "min", desc := "(II)I" } : Jvm.MethodName) prog_17_method_69_code (2 : Nat) (Option.some Jvm.ClassFile.FieldType.int)) ∈ UW := uw_at 316 rfl rfl
theorem uw_317 : (Jvm.Cond.methodLink "StabilitySums" (255 : Nat) ({ cls := "StabilitySums", name := "tryMore", desc := "(IJ)V" } : Jvm.MethodName)) ∈ UW := uw_at 317 (by decide +kernel) rfl
theorem uw_319 : (Jvm.Cond.instanceMethod ({ cls := "StabilitySums", name := "tryMore", desc := "(IJ)V" } : Jvm.MethodName)) ∈ UW := uw_at 319 (by decide +kernel) rfl
set_option maxRecDepth 100000 in
theorem uw_320 : (Jvm.Cond.code ({ cls := "StabilitySums", name := "tryMore", desc := "(IJ)V" } : Jvm.MethodName) prog_1_method_23_code (4 : Nat) (Option.none : Option Jvm.ClassFile.FieldType)) ∈ UW := uw_at 320 rfl rfl
theorem uw_321 : (Jvm.Cond.methodLink "StabilitySums" (274 : Nat) ({ cls := "StabilitySums$Sums", name := "add", desc := "(JJJJ)V" } : Jvm.MethodName)) ∈ UW := uw_at 321 (by decide +kernel) rfl
theorem uw_322 : (Jvm.Cond.instanceMethod ({ cls := "StabilitySums$Sums", name := "add", desc := "(JJJJ)V" } : Jvm.MethodName)) ∈ UW := uw_at 322 (by decide +kernel) rfl
theorem uw_323 : (Jvm.Cond.selects "StabilitySums$Sums" ({ cls := "StabilitySums$Sums", name := "add", desc := "(JJJJ)V" } : Jvm.MethodName) ({ cls := "StabilitySums$Sums", name := "add", desc := "(JJJJ)V" } : Jvm.MethodName)) ∈ UW := uw_at 323 (by decide +kernel) rfl
set_option maxRecDepth 100000 in
theorem uw_324 : (Jvm.Cond.code ({ cls := "StabilitySums$Sums", name := "add", desc := "(JJJJ)V" } : Jvm.MethodName) prog_6_method_3_code (9 : Nat) (Option.none : Option Jvm.ClassFile.FieldType)) ∈ UW := uw_at 324 rfl rfl
theorem uw_325 : (Jvm.Cond.methodLink "StabilitySums" (278 : Nat) ({ cls := "StabilitySums$Cuts", name := "add", desc := "(JJ)V" } : Jvm.MethodName)) ∈ UW := uw_at 325 (by decide +kernel) rfl
theorem uw_326 : (Jvm.Cond.instanceMethod ({ cls := "StabilitySums$Cuts", name := "add", desc := "(JJ)V" } : Jvm.MethodName)) ∈ UW := uw_at 326 (by decide +kernel) rfl
theorem uw_327 : (Jvm.Cond.selects "StabilitySums$Cuts" ({ cls := "StabilitySums$Cuts", name := "add", desc := "(JJ)V" } : Jvm.MethodName) ({ cls := "StabilitySums$Cuts", name := "add", desc := "(JJ)V" } : Jvm.MethodName)) ∈ UW := uw_at 327 (by decide +kernel) rfl
set_option maxRecDepth 100000 in
theorem uw_328 : (Jvm.Cond.code ({ cls := "StabilitySums$Cuts", name := "add", desc := "(JJ)V" } : Jvm.MethodName) prog_2_method_3_code (6 : Nat) (Option.none : Option Jvm.ClassFile.FieldType)) ∈ UW := uw_at 328 rfl rfl
theorem uw_329 : (Jvm.Cond.methodLink "StabilitySums" (262 : Nat) ({ cls := "StabilitySums", name := "tryFilling", desc := "(IJ)V" } : Jvm.MethodName)) ∈ UW := uw_at 329 (by decide +kernel) rfl
theorem uw_331 : (Jvm.Cond.instanceMethod ({ cls := "StabilitySums", name := "tryFilling", desc := "(IJ)V" } : Jvm.MethodName)) ∈ UW := uw_at 331 (by decide +kernel) rfl
set_option maxRecDepth 100000 in
theorem uw_332 : (Jvm.Cond.code ({ cls := "StabilitySums", name := "tryFilling", desc := "(IJ)V" } : Jvm.MethodName) prog_1_method_24_code (6 : Nat) (Option.none : Option Jvm.ClassFile.FieldType)) ∈ UW := uw_at 332 rfl rfl
theorem uw_333 : (Jvm.Cond.methodLink "StabilitySums" (284 : Nat) ({ cls := "StabilitySums$Tanks", name := "surfaceOf", desc := "(IJ)J" } : Jvm.MethodName)) ∈ UW := uw_at 333 (by decide +kernel) rfl
theorem uw_334 : (Jvm.Cond.instanceMethod ({ cls := "StabilitySums$Tanks", name := "surfaceOf", desc := "(IJ)J" } : Jvm.MethodName)) ∈ UW := uw_at 334 (by decide +kernel) rfl
theorem uw_335 : (Jvm.Cond.selects "StabilitySums$Tanks" ({ cls := "StabilitySums$Tanks", name := "surfaceOf", desc := "(IJ)J" } : Jvm.MethodName) ({ cls := "StabilitySums$Tanks", name := "surfaceOf", desc := "(IJ)J" } : Jvm.MethodName)) ∈ UW := uw_at 335 (by decide +kernel) rfl
set_option maxRecDepth 100000 in
theorem uw_336 : (Jvm.Cond.code ({ cls := "StabilitySums$Tanks", name := "surfaceOf", desc := "(IJ)J" } : Jvm.MethodName) prog_8_method_4_code (4 : Nat) (Option.some Jvm.ClassFile.FieldType.long)) ∈ UW := uw_at 336 rfl rfl
theorem uw_337 : (Jvm.Cond.methodLink "StabilitySums$Tanks" (40 : Nat) ({ cls := "StabilitySums$Tanks", name := "isSlack", desc := "(IJ)Z" } : Jvm.MethodName)) ∈ UW := uw_at 337 (by decide +kernel) rfl
theorem uw_338 : (Jvm.Cond.instanceMethod ({ cls := "StabilitySums$Tanks", name := "isSlack", desc := "(IJ)Z" } : Jvm.MethodName)) ∈ UW := uw_at 338 (by decide +kernel) rfl
theorem uw_339 : (Jvm.Cond.selects "StabilitySums$Tanks" ({ cls := "StabilitySums$Tanks", name := "isSlack", desc := "(IJ)Z" } : Jvm.MethodName) ({ cls := "StabilitySums$Tanks", name := "isSlack", desc := "(IJ)Z" } : Jvm.MethodName)) ∈ UW := uw_at 339 (by decide +kernel) rfl
set_option maxRecDepth 100000 in
theorem uw_340 : (Jvm.Cond.code ({ cls := "StabilitySums$Tanks", name := "isSlack", desc := "(IJ)Z" } : Jvm.MethodName) prog_8_method_3_code (4 : Nat) (Option.some Jvm.ClassFile.FieldType.boolean)) ∈ UW := uw_at 340 rfl rfl
theorem uw_341 : (Jvm.Cond.methodLink "StabilitySums" (209 : Nat) ({ cls := "StabilitySums", name := "leastBroken", desc := "()I" } : Jvm.MethodName)) ∈ UW := uw_at 341 (by decide +kernel) rfl
theorem uw_343 : (Jvm.Cond.instanceMethod ({ cls := "StabilitySums", name := "leastBroken", desc := "()I" } : Jvm.MethodName)) ∈ UW := uw_at 343 (by decide +kernel) rfl
set_option maxRecDepth 100000 in
theorem uw_344 : (Jvm.Cond.code ({ cls := "StabilitySums", name := "leastBroken", desc := "()I" } : Jvm.MethodName) prog_1_method_30_code (2 : Nat) (Option.some Jvm.ClassFile.FieldType.int)) ∈ UW := uw_at 344 rfl rfl
theorem uw_345 : (Jvm.Cond.methodLink "StabilitySums" (329 : Nat) ({ cls := "StabilitySums", name := "breaks", desc := "(I)Z" } : Jvm.MethodName)) ∈ UW := uw_at 345 (by decide +kernel) rfl
theorem uw_347 : (Jvm.Cond.instanceMethod ({ cls := "StabilitySums", name := "breaks", desc := "(I)Z" } : Jvm.MethodName)) ∈ UW := uw_at 347 (by decide +kernel) rfl
set_option maxRecDepth 100000 in
theorem uw_348 : (Jvm.Cond.code ({ cls := "StabilitySums", name := "breaks", desc := "(I)Z" } : Jvm.MethodName) prog_1_method_31_code (5 : Nat) (Option.some Jvm.ClassFile.FieldType.boolean)) ∈ UW := uw_at 348 rfl rfl
theorem uw_349 : (Jvm.Cond.methodLink "StabilitySums" (188 : Nat) ({ cls := "StabilitySums", name := "shearAt", desc := "(I)J" } : Jvm.MethodName)) ∈ UW := uw_at 349 (by decide +kernel) rfl
theorem uw_351 : (Jvm.Cond.instanceMethod ({ cls := "StabilitySums", name := "shearAt", desc := "(I)J" } : Jvm.MethodName)) ∈ UW := uw_at 351 (by decide +kernel) rfl
set_option maxRecDepth 100000 in
theorem uw_352 : (Jvm.Cond.code ({ cls := "StabilitySums", name := "shearAt", desc := "(I)J" } : Jvm.MethodName) prog_1_method_28_code (8 : Nat) (Option.some Jvm.ClassFile.FieldType.long)) ∈ UW := uw_at 352 rfl rfl
theorem uw_353 : (Jvm.Cond.methodLink "StabilitySums" (323 : Nat) ({ cls := "StabilitySums", name := "divideDown", desc := "(JJ)J" } : Jvm.MethodName)) ∈ UW := uw_at 353 (by decide +kernel) rfl
theorem uw_354 : (Jvm.Cond.static ({ cls := "StabilitySums", name := "divideDown", desc := "(JJ)J" } : Jvm.MethodName)) ∈ UW := uw_at 354 (by decide +kernel) rfl
set_option maxRecDepth 100000 in
theorem uw_355 : (Jvm.Cond.code ({ cls := "StabilitySums", name := "divideDown", desc := "(JJ)J" } : Jvm.MethodName) prog_1_method_21_code (4 : Nat) (Option.some Jvm.ClassFile.FieldType.long)) ∈ UW := uw_at 355 rfl rfl
theorem uw_356 : (Jvm.Cond.methodLink "StabilitySums" (241 : Nat) ({ cls := "java/lang/Math", name := "floorDiv", desc := "(JJ)J" } : Jvm.MethodName)) ∈ UW := uw_at 356 (by decide +kernel) rfl
theorem uw_357 : (Jvm.Cond.static ({ cls := "java/lang/Math", name := "floorDiv", desc := "(JJ)J" } : Jvm.MethodName)) ∈ UW := uw_at 357 (by decide +kernel) rfl
set_option maxRecDepth 100000 in
theorem uw_358 : (Jvm.Cond.code ({ cls := "java/lang/Math", name := "floorDiv", desc := "(JJ)J" } : Jvm.MethodName) prog_17_method_49_code (6 : Nat) (Option.some Jvm.ClassFile.FieldType.long)) ∈ UW := uw_at 358 rfl rfl
theorem uw_359 : (Jvm.Cond.methodLink "StabilitySums" (192 : Nat) ({ cls := "StabilitySums", name := "bendingAt", desc := "(I)J" } : Jvm.MethodName)) ∈ UW := uw_at 359 (by decide +kernel) rfl
theorem uw_361 : (Jvm.Cond.instanceMethod ({ cls := "StabilitySums", name := "bendingAt", desc := "(I)J" } : Jvm.MethodName)) ∈ UW := uw_at 361 (by decide +kernel) rfl
set_option maxRecDepth 100000 in
theorem uw_362 : (Jvm.Cond.code ({ cls := "StabilitySums", name := "bendingAt", desc := "(I)J" } : Jvm.MethodName) prog_1_method_29_code (10 : Nat) (Option.some Jvm.ClassFile.FieldType.long)) ∈ UW := uw_at 362 rfl rfl
theorem uw_363 : (Jvm.Cond.constantLong "StabilitySums" (151 : Nat) (2 : Int64)) ∈ UW := uw_at 363 (by decide +kernel) rfl
theorem uw_364 : (Jvm.Cond.methodLink "StabilitySums" (335 : Nat) ({ cls := "StabilitySums$Limits", name := "allows", desc := "(IJJ)Z" } : Jvm.MethodName)) ∈ UW := uw_at 364 (by decide +kernel) rfl
theorem uw_365 : (Jvm.Cond.instanceMethod ({ cls := "StabilitySums$Limits", name := "allows", desc := "(IJJ)Z" } : Jvm.MethodName)) ∈ UW := uw_at 365 (by decide +kernel) rfl
theorem uw_366 : (Jvm.Cond.selects "StabilitySums$Limits" ({ cls := "StabilitySums$Limits", name := "allows", desc := "(IJJ)Z" } : Jvm.MethodName) ({ cls := "StabilitySums$Limits", name := "allows", desc := "(IJJ)Z" } : Jvm.MethodName)) ∈ UW := uw_at 366 (by decide +kernel) rfl
set_option maxRecDepth 100000 in
theorem uw_367 : (Jvm.Cond.code ({ cls := "StabilitySums$Limits", name := "allows", desc := "(IJJ)Z" } : Jvm.MethodName) prog_4_method_3_code (6 : Nat) (Option.some Jvm.ClassFile.FieldType.boolean)) ∈ UW := uw_at 367 rfl rfl
theorem uw_368 : (Jvm.Cond.methodLink "StabilitySums" (158 : Nat) ({ cls := "StabilitySums", name := "isWithoutAnswer", desc := "(I)Z" } : Jvm.MethodName)) ∈ UW := uw_at 368 (by decide +kernel) rfl
theorem uw_370 : (Jvm.Cond.instanceMethod ({ cls := "StabilitySums", name := "isWithoutAnswer", desc := "(I)Z" } : Jvm.MethodName)) ∈ UW := uw_at 370 (by decide +kernel) rfl
set_option maxRecDepth 100000 in
theorem uw_371 : (Jvm.Cond.code ({ cls := "StabilitySums", name := "isWithoutAnswer", desc := "(I)Z" } : Jvm.MethodName) prog_1_method_26_code (2 : Nat) (Option.some Jvm.ClassFile.FieldType.boolean)) ∈ UW := uw_at 371 rfl rfl
theorem uw_372 : (Jvm.Cond.methodLink "StabilitySums" (167 : Nat) ({ cls := "StabilitySums", name := "work", desc := "(I)V" } : Jvm.MethodName)) ∈ UW := uw_at 372 (by decide +kernel) rfl
theorem uw_374 : (Jvm.Cond.instanceMethod ({ cls := "StabilitySums", name := "work", desc := "(I)V" } : Jvm.MethodName)) ∈ UW := uw_at 374 (by decide +kernel) rfl
set_option maxRecDepth 100000 in
theorem uw_375 : (Jvm.Cond.code ({ cls := "StabilitySums", name := "work", desc := "(I)V" } : Jvm.MethodName) prog_1_method_27_code (4 : Nat) (Option.none : Option Jvm.ClassFile.FieldType)) ∈ UW := uw_at 375 rfl rfl
theorem uw_376 : (Jvm.Cond.methodLink "StabilitySums" (305 : Nat) ({ cls := "StabilitySums$Fraction", name := "put", desc := "(JJ)V" } : Jvm.MethodName)) ∈ UW := uw_at 376 (by decide +kernel) rfl
theorem uw_377 : (Jvm.Cond.instanceMethod ({ cls := "StabilitySums$Fraction", name := "put", desc := "(JJ)V" } : Jvm.MethodName)) ∈ UW := uw_at 377 (by decide +kernel) rfl
theorem uw_378 : (Jvm.Cond.selects "StabilitySums$Fraction" ({ cls := "StabilitySums$Fraction", name := "put", desc := "(JJ)V" } : Jvm.MethodName) ({ cls := "StabilitySums$Fraction", name := "put", desc := "(JJ)V" } : Jvm.MethodName)) ∈ UW := uw_at 378 (by decide +kernel) rfl
set_option maxRecDepth 100000 in
theorem uw_379 : (Jvm.Cond.code ({ cls := "StabilitySums$Fraction", name := "put", desc := "(JJ)V" } : Jvm.MethodName) prog_3_method_2_code (5 : Nat) (Option.none : Option Jvm.ClassFile.FieldType)) ∈ UW := uw_at 379 rfl rfl
theorem uw_380 : (Jvm.Cond.methodLink "StabilitySums" (315 : Nat) ({ cls := "StabilitySums$Table", name := "read", desc := "([JJLStabilitySums$Fraction;)V" } : Jvm.MethodName)) ∈ UW := uw_at 380 (by decide +kernel) rfl
theorem uw_381 : (Jvm.Cond.instanceMethod ({ cls := "StabilitySums$Table", name := "read", desc := "([JJLStabilitySums$Fraction;)V" } : Jvm.MethodName)) ∈ UW := uw_at 381 (by decide +kernel) rfl
theorem uw_382 : (Jvm.Cond.selects "StabilitySums$Table" ({ cls := "StabilitySums$Table", name := "read", desc := "([JJLStabilitySums$Fraction;)V" } : Jvm.MethodName) ({ cls := "StabilitySums$Table", name := "read", desc := "([JJLStabilitySums$Fraction;)V" } : Jvm.MethodName)) ∈ UW := uw_at 382 (by decide +kernel) rfl
set_option maxRecDepth 100000 in
theorem uw_383 : (Jvm.Cond.code ({ cls := "StabilitySums$Table", name := "read", desc := "([JJLStabilitySums$Fraction;)V" } : Jvm.MethodName) prog_7_method_4_code (12 : Nat) (Option.none : Option Jvm.ClassFile.FieldType)) ∈ UW := uw_at 383 rfl rfl
theorem uw_384 : (Jvm.Cond.methodLink "StabilitySums$Table" (25 : Nat) ({ cls := "StabilitySums$Fraction", name := "put", desc := "(JJ)V" } : Jvm.MethodName)) ∈ UW := uw_at 384 (by decide +kernel) rfl
theorem uw_385 : (Jvm.Cond.methodLink "StabilitySums" (171 : Nat) ({ cls := "StabilitySums$Fraction", name := "floor", desc := "()J" } : Jvm.MethodName)) ∈ UW := uw_at 385 (by decide +kernel) rfl
theorem uw_386 : (Jvm.Cond.instanceMethod ({ cls := "StabilitySums$Fraction", name := "floor", desc := "()J" } : Jvm.MethodName)) ∈ UW := uw_at 386 (by decide +kernel) rfl
theorem uw_387 : (Jvm.Cond.selects "StabilitySums$Fraction" ({ cls := "StabilitySums$Fraction", name := "floor", desc := "()J" } : Jvm.MethodName) ({ cls := "StabilitySums$Fraction", name := "floor", desc := "()J" } : Jvm.MethodName)) ∈ UW := uw_at 387 (by decide +kernel) rfl
set_option maxRecDepth 100000 in
theorem uw_388 : (Jvm.Cond.code ({ cls := "StabilitySums$Fraction", name := "floor", desc := "()J" } : Jvm.MethodName) prog_3_method_3_code (1 : Nat) (Option.some Jvm.ClassFile.FieldType.long)) ∈ UW := uw_at 388 rfl rfl
theorem uw_390 : (Jvm.Cond.methodLink "StabilitySums" (339 : Nat) ({ cls := "StabilitySums$Fraction", name := "ceiling", desc := "()J" } : Jvm.MethodName)) ∈ UW := uw_at 390 (by decide +kernel) rfl
theorem uw_391 : (Jvm.Cond.instanceMethod ({ cls := "StabilitySums$Fraction", name := "ceiling", desc := "()J" } : Jvm.MethodName)) ∈ UW := uw_at 391 (by decide +kernel) rfl
theorem uw_392 : (Jvm.Cond.selects "StabilitySums$Fraction" ({ cls := "StabilitySums$Fraction", name := "ceiling", desc := "()J" } : Jvm.MethodName) ({ cls := "StabilitySums$Fraction", name := "ceiling", desc := "()J" } : Jvm.MethodName)) ∈ UW := uw_at 392 (by decide +kernel) rfl
set_option maxRecDepth 100000 in
theorem uw_393 : (Jvm.Cond.code ({ cls := "StabilitySums$Fraction", name := "ceiling", desc := "()J" } : Jvm.MethodName) prog_3_method_4_code (1 : Nat) (Option.some Jvm.ClassFile.FieldType.long)) ∈ UW := uw_at 393 rfl rfl
theorem uw_394 : (Jvm.Cond.methodLink "StabilitySumsLaw" (112 : Nat) ({ cls := "StabilitySums", name := "ballast", desc := "()J" } : Jvm.MethodName)) ∈ UW := uw_at 394 (by decide +kernel) rfl
theorem uw_395 : (Jvm.Cond.instanceMethod ({ cls := "StabilitySums", name := "ballast", desc := "()J" } : Jvm.MethodName)) ∈ UW := uw_at 395 (by decide +kernel) rfl
theorem uw_396 : (Jvm.Cond.selects "StabilitySums" ({ cls := "StabilitySums", name := "ballast", desc := "()J" } : Jvm.MethodName) ({ cls := "StabilitySums", name := "ballast", desc := "()J" } : Jvm.MethodName)) ∈ UW := uw_at 396 (by decide +kernel) rfl
set_option maxRecDepth 100000 in
theorem uw_397 : (Jvm.Cond.code ({ cls := "StabilitySums", name := "ballast", desc := "()J" } : Jvm.MethodName) prog_1_method_12_code (1 : Nat) (Option.some Jvm.ClassFile.FieldType.long)) ∈ UW := uw_at 397 rfl rfl
theorem uw_398 : (Jvm.Cond.methodLink "StabilitySums" (213 : Nat) ({ cls := "StabilitySums", name := "findPumping", desc := "()J" } : Jvm.MethodName)) ∈ UW := uw_at 398 (by decide +kernel) rfl
theorem uw_400 : (Jvm.Cond.instanceMethod ({ cls := "StabilitySums", name := "findPumping", desc := "()J" } : Jvm.MethodName)) ∈ UW := uw_at 400 (by decide +kernel) rfl
set_option maxRecDepth 100000 in
theorem uw_401 : (Jvm.Cond.code ({ cls := "StabilitySums", name := "findPumping", desc := "()J" } : Jvm.MethodName) prog_1_method_32_code (7 : Nat) (Option.some Jvm.ClassFile.FieldType.long)) ∈ UW := uw_at 401 rfl rfl
theorem uw_402 : (Jvm.Cond.constantLong "StabilitySums" (216 : Nat) (-1 : Int64)) ∈ UW := uw_at 402 (by decide +kernel) rfl
theorem uw_403 : (Jvm.Cond.methodLink "StabilitySums" (342 : Nat) ({ cls := "StabilitySums", name := "trySetting", desc := "(I)V" } : Jvm.MethodName)) ∈ UW := uw_at 403 (by decide +kernel) rfl
theorem uw_405 : (Jvm.Cond.instanceMethod ({ cls := "StabilitySums", name := "trySetting", desc := "(I)V" } : Jvm.MethodName)) ∈ UW := uw_at 405 (by decide +kernel) rfl
set_option maxRecDepth 100000 in
theorem uw_406 : (Jvm.Cond.code ({ cls := "StabilitySums", name := "trySetting", desc := "(I)V" } : Jvm.MethodName) prog_1_method_33_code (4 : Nat) (Option.none : Option Jvm.ClassFile.FieldType)) ∈ UW := uw_at 406 rfl rfl
theorem uw_407 : (Jvm.Cond.constantLong "StabilitySums" (105 : Nat) (4 : Int64)) ∈ UW := uw_at 407 (by decide +kernel) rfl
theorem uw_408 : (Jvm.Cond.methodLink "StabilitySums" (345 : Nat) ({ cls := "StabilitySums$Tanks", name := "workOfTried", desc := "()J" } : Jvm.MethodName)) ∈ UW := uw_at 408 (by decide +kernel) rfl
theorem uw_409 : (Jvm.Cond.instanceMethod ({ cls := "StabilitySums$Tanks", name := "workOfTried", desc := "()J" } : Jvm.MethodName)) ∈ UW := uw_at 409 (by decide +kernel) rfl
theorem uw_410 : (Jvm.Cond.selects "StabilitySums$Tanks" ({ cls := "StabilitySums$Tanks", name := "workOfTried", desc := "()J" } : Jvm.MethodName) ({ cls := "StabilitySums$Tanks", name := "workOfTried", desc := "()J" } : Jvm.MethodName)) ∈ UW := uw_at 410 (by decide +kernel) rfl
set_option maxRecDepth 100000 in
theorem uw_411 : (Jvm.Cond.code ({ cls := "StabilitySums$Tanks", name := "workOfTried", desc := "()J" } : Jvm.MethodName) prog_8_method_6_code (4 : Nat) (Option.some Jvm.ClassFile.FieldType.long)) ∈ UW := uw_at 411 rfl rfl
theorem uw_412 : (Jvm.Cond.methodLink "StabilitySums$Tanks" (44 : Nat) ({ cls := "java/lang/Math", name := "abs", desc := "(J)J" } : Jvm.MethodName)) ∈ UW := uw_at 412 (by decide +kernel) rfl
theorem uw_413 : (Jvm.Cond.static ({ cls := "java/lang/Math", name := "abs", desc := "(J)J" } : Jvm.MethodName)) ∈ UW := uw_at 413 (by decide +kernel) rfl
set_option maxRecDepth 100000 in
theorem uw_414 : (Jvm.Cond.code ({ cls := "java/lang/Math", name := "abs", desc := "(J)J" } : Jvm.MethodName) prog_17_method_61_code (2 : Nat) (Option.some Jvm.ClassFile.FieldType.long)) ∈ UW := uw_at 414 rfl rfl
theorem uw_415 : (Jvm.Cond.methodLink "StabilitySums" (348 : Nat) ({ cls := "StabilitySums$Tanks", name := "keepTried", desc := "()V" } : Jvm.MethodName)) ∈ UW := uw_at 415 (by decide +kernel) rfl
theorem uw_416 : (Jvm.Cond.instanceMethod ({ cls := "StabilitySums$Tanks", name := "keepTried", desc := "()V" } : Jvm.MethodName)) ∈ UW := uw_at 416 (by decide +kernel) rfl
theorem uw_417 : (Jvm.Cond.selects "StabilitySums$Tanks" ({ cls := "StabilitySums$Tanks", name := "keepTried", desc := "()V" } : Jvm.MethodName) ({ cls := "StabilitySums$Tanks", name := "keepTried", desc := "()V" } : Jvm.MethodName)) ∈ UW := uw_at 417 (by decide +kernel) rfl
set_option maxRecDepth 100000 in
theorem uw_418 : (Jvm.Cond.code ({ cls := "StabilitySums$Tanks", name := "keepTried", desc := "()V" } : Jvm.MethodName) prog_8_method_7_code (2 : Nat) (Option.none : Option Jvm.ClassFile.FieldType)) ∈ UW := uw_at 418 rfl rfl
theorem uw_419 : (Jvm.Cond.methodLink "StabilitySumsLaw" (128 : Nat) ({ cls := "StabilitySums", name := "broken", desc := "()I" } : Jvm.MethodName)) ∈ UW := uw_at 419 (by decide +kernel) rfl
theorem uw_420 : (Jvm.Cond.instanceMethod ({ cls := "StabilitySums", name := "broken", desc := "()I" } : Jvm.MethodName)) ∈ UW := uw_at 420 (by decide +kernel) rfl
theorem uw_421 : (Jvm.Cond.selects "StabilitySums" ({ cls := "StabilitySums", name := "broken", desc := "()I" } : Jvm.MethodName) ({ cls := "StabilitySums", name := "broken", desc := "()I" } : Jvm.MethodName)) ∈ UW := uw_at 421 (by decide +kernel) rfl
set_option maxRecDepth 100000 in
theorem uw_422 : (Jvm.Cond.code ({ cls := "StabilitySums", name := "broken", desc := "()I" } : Jvm.MethodName) prog_1_method_16_code (2 : Nat) (Option.some Jvm.ClassFile.FieldType.int)) ∈ UW := uw_at 422 rfl rfl
theorem uw_423 : (Jvm.Cond.methodLink "StabilitySums" (233 : Nat) ({ cls := "StabilitySums", name := "tryStep", desc := "(I)V" } : Jvm.MethodName)) ∈ UW := uw_at 423 (by decide +kernel) rfl
theorem uw_425 : (Jvm.Cond.instanceMethod ({ cls := "StabilitySums", name := "tryStep", desc := "(I)V" } : Jvm.MethodName)) ∈ UW := uw_at 425 (by decide +kernel) rfl
set_option maxRecDepth 100000 in
theorem uw_426 : (Jvm.Cond.code ({ cls := "StabilitySums", name := "tryStep", desc := "(I)V" } : Jvm.MethodName) prog_1_method_25_code (2 : Nat) (Option.none : Option Jvm.ClassFile.FieldType)) ∈ UW := uw_at 426 rfl rfl
theorem uw_427 : (Jvm.Cond.methodLink "StabilitySumsLaw" (132 : Nat) ({ cls := "StabilitySums", name := "count", desc := "(I)I" } : Jvm.MethodName)) ∈ UW := uw_at 427 (by decide +kernel) rfl
theorem uw_428 : (Jvm.Cond.instanceMethod ({ cls := "StabilitySums", name := "count", desc := "(I)I" } : Jvm.MethodName)) ∈ UW := uw_at 428 (by decide +kernel) rfl
theorem uw_429 : (Jvm.Cond.selects "StabilitySums" ({ cls := "StabilitySums", name := "count", desc := "(I)I" } : Jvm.MethodName) ({ cls := "StabilitySums", name := "count", desc := "(I)I" } : Jvm.MethodName)) ∈ UW := uw_at 429 (by decide +kernel) rfl
set_option maxRecDepth 100000 in
theorem uw_430 : (Jvm.Cond.code ({ cls := "StabilitySums", name := "count", desc := "(I)I" } : Jvm.MethodName) prog_1_method_17_code (2 : Nat) (Option.some Jvm.ClassFile.FieldType.int)) ∈ UW := uw_at 430 rfl rfl
theorem uw_431 : (Jvm.Cond.methodLink "StabilitySums" (236 : Nat) ({ cls := "StabilitySums$Tanks", name := "countSlack", desc := "()I" } : Jvm.MethodName)) ∈ UW := uw_at 431 (by decide +kernel) rfl
theorem uw_432 : (Jvm.Cond.instanceMethod ({ cls := "StabilitySums$Tanks", name := "countSlack", desc := "()I" } : Jvm.MethodName)) ∈ UW := uw_at 432 (by decide +kernel) rfl
theorem uw_433 : (Jvm.Cond.selects "StabilitySums$Tanks" ({ cls := "StabilitySums$Tanks", name := "countSlack", desc := "()I" } : Jvm.MethodName) ({ cls := "StabilitySums$Tanks", name := "countSlack", desc := "()I" } : Jvm.MethodName)) ∈ UW := uw_at 433 (by decide +kernel) rfl
set_option maxRecDepth 100000 in
theorem uw_434 : (Jvm.Cond.code ({ cls := "StabilitySums$Tanks", name := "countSlack", desc := "()I" } : Jvm.MethodName) prog_8_method_5_code (3 : Nat) (Option.some Jvm.ClassFile.FieldType.int)) ∈ UW := uw_at 434 rfl rfl
theorem uw_435 : (Jvm.Cond.methodLink "StabilitySumsLaw" (66 : Nat) ({ cls := "StabilitySumsLaw", name := "weight", desc := "(LStabilitySums;JJJJ[J)I" } : Jvm.MethodName)) ∈ UW := uw_at 435 (by decide +kernel) rfl
theorem uw_436 : (Jvm.Cond.static ({ cls := "StabilitySumsLaw", name := "weight", desc := "(LStabilitySums;JJJJ[J)I" } : Jvm.MethodName)) ∈ UW := uw_at 436 (by decide +kernel) rfl
set_option maxRecDepth 100000 in
theorem uw_437 : (Jvm.Cond.codeWith ({ cls := "StabilitySumsLaw", name := "weight", desc := "(LStabilitySums;JJJJ[J)I" } : Jvm.MethodName) method_3_code (11 : Nat) (Option.some Jvm.ClassFile.FieldType.int) [((0 : Nat), (15 : Nat), (18 : Nat), (13 : Nat)), ((0 : Nat), (15 : Nat), (22 : Nat), (15 : Nat))]) ∈ UW := uw_at 437 rfl rfl
theorem uw_438 : (Jvm.Cond.classLink "StabilitySumsLaw" (13 : Nat) "java/lang/IllegalArgumentException") ∈ UW := uw_at 438 (by decide +kernel) rfl
theorem uw_439 : (Jvm.Cond.classLink "StabilitySumsLaw" (15 : Nat) "java/lang/IllegalStateException") ∈ UW := uw_at 439 (by decide +kernel) rfl
theorem uw_440 : (Jvm.Cond.methodLink "StabilitySumsLaw" (7 : Nat) ({ cls := "StabilitySums", name := "weight", desc := "(JJJJ)I" } : Jvm.MethodName)) ∈ UW := uw_at 440 (by decide +kernel) rfl
theorem uw_441 : (Jvm.Cond.instanceMethod ({ cls := "StabilitySums", name := "weight", desc := "(JJJJ)I" } : Jvm.MethodName)) ∈ UW := uw_at 441 (by decide +kernel) rfl
theorem uw_442 : (Jvm.Cond.selects "StabilitySums" ({ cls := "StabilitySums", name := "weight", desc := "(JJJJ)I" } : Jvm.MethodName) ({ cls := "StabilitySums", name := "weight", desc := "(JJJJ)I" } : Jvm.MethodName)) ∈ UW := uw_at 442 (by decide +kernel) rfl
set_option maxRecDepth 100000 in
theorem uw_443 : (Jvm.Cond.code ({ cls := "StabilitySums", name := "weight", desc := "(JJJJ)I" } : Jvm.MethodName) prog_1_method_2_code (9 : Nat) (Option.some Jvm.ClassFile.FieldType.int)) ∈ UW := uw_at 443 rfl rfl
theorem uw_444 : (Jvm.Cond.constantLong "StabilitySums" (74 : Nat) (-100000 : Int64)) ∈ UW := uw_at 444 (by decide +kernel) rfl
theorem uw_445 : (Jvm.Cond.constantLong "StabilitySums" (76 : Nat) (100000 : Int64)) ∈ UW := uw_at 445 (by decide +kernel) rfl
theorem uw_446 : (Jvm.Cond.methodLink "StabilitySums" (82 : Nat) ({ cls := "StabilitySums", name := "arePlaces", desc := "(JJJ)Z" } : Jvm.MethodName)) ∈ UW := uw_at 446 (by decide +kernel) rfl
theorem uw_447 : (Jvm.Cond.static ({ cls := "StabilitySums", name := "arePlaces", desc := "(JJJ)Z" } : Jvm.MethodName)) ∈ UW := uw_at 447 (by decide +kernel) rfl
set_option maxRecDepth 100000 in
theorem uw_448 : (Jvm.Cond.code ({ cls := "StabilitySums", name := "arePlaces", desc := "(JJJ)Z" } : Jvm.MethodName) prog_1_method_20_code (6 : Nat) (Option.some Jvm.ClassFile.FieldType.boolean)) ∈ UW := uw_at 448 rfl rfl
theorem uw_449 : (Jvm.Cond.classLink "StabilitySums" (85 : Nat) "java/lang/IllegalArgumentException") ∈ UW := uw_at 449 (by decide +kernel) rfl
theorem uw_450 : (Jvm.Cond.instantiable "java/lang/IllegalArgumentException" (6 : Nat)) ∈ UW := uw_at 450 (by decide +kernel) rfl
theorem uw_458 : (Jvm.Cond.selects "java/lang/IllegalArgumentException" ({ cls := "java/lang/Throwable", name := "fillInStackTrace", desc := "(I)Ljava/lang/Throwable;" } : Jvm.MethodName) ({ cls := "java/lang/Throwable", name := "fillInStackTrace", desc := "(I)Ljava/lang/Throwable;" } : Jvm.MethodName)) ∈ UW := uw_at 458 (by decide +kernel) rfl
theorem uw_459 : (Jvm.Cond.selects "java/lang/IllegalArgumentException" ({ cls := "java/lang/Throwable", name := "fillInStackTrace", desc := "()Ljava/lang/Throwable;" } : Jvm.MethodName) ({ cls := "java/lang/Throwable", name := "fillInStackTrace", desc := "()Ljava/lang/Throwable;" } : Jvm.MethodName)) ∈ UW := uw_at 459 (by decide +kernel) rfl
theorem uw_460 : (Jvm.Cond.lays "java/lang/IllegalArgumentException" "java/lang/Throwable" "cause" "Ljava/lang/Throwable;") ∈ UW := uw_at 460 (by decide +kernel) rfl
theorem uw_461 : (Jvm.Cond.lays "java/lang/Throwable" "java/lang/Throwable" "cause" "Ljava/lang/Throwable;") ∈ UW := uw_at 461 (by decide +kernel) rfl
theorem uw_462 : (Jvm.Cond.lays "java/lang/IllegalArgumentException" "java/lang/Throwable" "stackTrace" "[Ljava/lang/StackTraceElement;") ∈ UW := uw_at 462 (by decide +kernel) rfl
theorem uw_463 : (Jvm.Cond.lays "java/lang/Throwable" "java/lang/Throwable" "stackTrace" "[Ljava/lang/StackTraceElement;") ∈ UW := uw_at 463 (by decide +kernel) rfl
theorem uw_464 : (Jvm.Cond.lays "java/lang/IllegalArgumentException" "java/lang/Throwable" "suppressedExceptions" "Ljava/util/List;") ∈ UW := uw_at 464 (by decide +kernel) rfl
theorem uw_465 : (Jvm.Cond.lays "java/lang/Throwable" "java/lang/Throwable" "suppressedExceptions" "Ljava/util/List;") ∈ UW := uw_at 465 (by decide +kernel) rfl
theorem uw_466 : (Jvm.Cond.lays "java/lang/IllegalArgumentException" "java/lang/Throwable" "detailMessage" "Ljava/lang/String;") ∈ UW := uw_at 466 (by decide +kernel) rfl
theorem uw_467 : (Jvm.Cond.lays "java/lang/Throwable" "java/lang/Throwable" "detailMessage" "Ljava/lang/String;") ∈ UW := uw_at 467 (by decide +kernel) rfl
theorem uw_468 : (Jvm.Cond.lays "java/lang/IllegalArgumentException" "java/lang/Throwable" "backtrace" "Ljava/lang/Object;") ∈ UW := uw_at 468 (by decide +kernel) rfl
theorem uw_469 : (Jvm.Cond.lays "java/lang/Throwable" "java/lang/Throwable" "backtrace" "Ljava/lang/Object;") ∈ UW := uw_at 469 (by decide +kernel) rfl
theorem uw_470 : (Jvm.Cond.fieldLink "java/lang/Throwable" (198 : Nat) "java/lang/Throwable" "backtrace" "Ljava/lang/Object;") ∈ UW := uw_at 470 (by decide +kernel) rfl
theorem uw_472 : (Jvm.Cond.instanceMethod ({ cls := "java/lang/Throwable", name := "<init>", desc := "()V" } : Jvm.MethodName)) ∈ UW := uw_at 472 (by decide +kernel) rfl
set_option maxRecDepth 100000 in
theorem uw_473 : (Jvm.Cond.code ({ cls := "java/lang/Throwable", name := "<init>", desc := "()V" } : Jvm.MethodName) prog_20_method_1_code (1 : Nat) (Option.none : Option Jvm.ClassFile.FieldType)) ∈ UW := uw_at 473 rfl rfl
theorem uw_474 : (Jvm.Cond.methodLink "java/lang/Throwable" (1 : Nat) ({ cls := "java/lang/Object", name := "<init>", desc := "()V" } : Jvm.MethodName)) ∈ UW := uw_at 474 (by decide +kernel) rfl
theorem uw_475 : (Jvm.Cond.fieldLink "java/lang/Throwable" (13 : Nat) "java/lang/Throwable" "UNASSIGNED_STACK" "[Ljava/lang/StackTraceElement;") ∈ UW := uw_at 475 (by decide +kernel) rfl
theorem uw_477 : (Jvm.Cond.fieldLink "java/lang/Throwable" (20 : Nat) "java/lang/Throwable" "SUPPRESSED_SENTINEL" "Ljava/util/List;") ∈ UW := uw_at 477 (by decide +kernel) rfl
theorem uw_479 : (Jvm.Cond.methodLink "java/lang/Throwable" (27 : Nat) ({ cls := "java/lang/Throwable", name := "fillInStackTrace", desc := "()Ljava/lang/Throwable;" } : Jvm.MethodName)) ∈ UW := uw_at 479 (by decide +kernel) rfl
theorem uw_480 : (Jvm.Cond.instanceMethod ({ cls := "java/lang/Throwable", name := "fillInStackTrace", desc := "()Ljava/lang/Throwable;" } : Jvm.MethodName)) ∈ UW := uw_at 480 (by decide +kernel) rfl
theorem uw_482 : (Jvm.Cond.selects "java/lang/ArithmeticException" ({ cls := "java/lang/Throwable", name := "fillInStackTrace", desc := "()Ljava/lang/Throwable;" } : Jvm.MethodName) ({ cls := "java/lang/Throwable", name := "fillInStackTrace", desc := "()Ljava/lang/Throwable;" } : Jvm.MethodName)) ∈ UW := uw_at 482 (by decide +kernel) rfl
theorem uw_483 : (Jvm.Cond.selects "java/lang/IllegalStateException" ({ cls := "java/lang/Throwable", name := "fillInStackTrace", desc := "()Ljava/lang/Throwable;" } : Jvm.MethodName) ({ cls := "java/lang/Throwable", name := "fillInStackTrace", desc := "()Ljava/lang/Throwable;" } : Jvm.MethodName)) ∈ UW := uw_at 483 (by decide +kernel) rfl
theorem uw_484 : (Jvm.Cond.selects "java/lang/IndexOutOfBoundsException" ({ cls := "java/lang/Throwable", name := "fillInStackTrace", desc := "()Ljava/lang/Throwable;" } : Jvm.MethodName) ({ cls := "java/lang/Throwable", name := "fillInStackTrace", desc := "()Ljava/lang/Throwable;" } : Jvm.MethodName)) ∈ UW := uw_at 484 (by decide +kernel) rfl
theorem uw_486 : (Jvm.Cond.methodLink "java/lang/Throwable" (202 : Nat) ({ cls := "java/lang/Throwable", name := "fillInStackTrace", desc := "(I)Ljava/lang/Throwable;" } : Jvm.MethodName)) ∈ UW := uw_at 486 (by decide +kernel) rfl
theorem uw_488 : (Jvm.Cond.instanceMethod ({ cls := "java/lang/Throwable", name := "fillInStackTrace", desc := "(I)Ljava/lang/Throwable;" } : Jvm.MethodName)) ∈ UW := uw_at 488 (by decide +kernel) rfl
theorem uw_489 : (Jvm.Cond.instantiable "java/lang/Throwable" (6 : Nat)) ∈ UW := uw_at 489 (by decide +kernel) rfl
theorem uw_492 : (Jvm.Cond.methodLink "StabilitySums" (89 : Nat) ({ cls := "java/lang/IllegalArgumentException", name := "<init>", desc := "(Ljava/lang/String;)V" } : Jvm.MethodName)) ∈ UW := uw_at 492 (by decide +kernel) rfl
theorem uw_493 : (Jvm.Cond.instanceMethod ({ cls := "java/lang/IllegalArgumentException", name := "<init>", desc := "(Ljava/lang/String;)V" } : Jvm.MethodName)) ∈ UW := uw_at 493 (by decide +kernel) rfl
set_option maxRecDepth 100000 in
theorem uw_494 : (Jvm.Cond.code ({ cls := "java/lang/IllegalArgumentException", name := "<init>", desc := "(Ljava/lang/String;)V" } : Jvm.MethodName) prog_14_method_2_code (2 : Nat) (Option.none : Option Jvm.ClassFile.FieldType)) ∈ UW := uw_at 494 rfl rfl
theorem uw_495 : (Jvm.Cond.methodLink "java/lang/IllegalArgumentException" (7 : Nat) ({ cls := "java/lang/RuntimeException", name := "<init>", desc := "(Ljava/lang/String;)V" } : Jvm.MethodName)) ∈ UW := uw_at 495 (by decide +kernel) rfl
theorem uw_496 : (Jvm.Cond.instanceMethod ({ cls := "java/lang/RuntimeException", name := "<init>", desc := "(Ljava/lang/String;)V" } : Jvm.MethodName)) ∈ UW := uw_at 496 (by decide +kernel) rfl
set_option maxRecDepth 100000 in
theorem uw_497 : (Jvm.Cond.code ({ cls := "java/lang/RuntimeException", name := "<init>", desc := "(Ljava/lang/String;)V" } : Jvm.MethodName) prog_18_method_2_code (2 : Nat) (Option.none : Option Jvm.ClassFile.FieldType)) ∈ UW := uw_at 497 rfl rfl
theorem uw_498 : (Jvm.Cond.methodLink "java/lang/RuntimeException" (7 : Nat) ({ cls := "java/lang/Exception", name := "<init>", desc := "(Ljava/lang/String;)V" } : Jvm.MethodName)) ∈ UW := uw_at 498 (by decide +kernel) rfl
theorem uw_499 : (Jvm.Cond.instanceMethod ({ cls := "java/lang/Exception", name := "<init>", desc := "(Ljava/lang/String;)V" } : Jvm.MethodName)) ∈ UW := uw_at 499 (by decide +kernel) rfl
set_option maxRecDepth 100000 in
theorem uw_500 : (Jvm.Cond.code ({ cls := "java/lang/Exception", name := "<init>", desc := "(Ljava/lang/String;)V" } : Jvm.MethodName) prog_13_method_2_code (2 : Nat) (Option.none : Option Jvm.ClassFile.FieldType)) ∈ UW := uw_at 500 rfl rfl
theorem uw_501 : (Jvm.Cond.methodLink "java/lang/Exception" (7 : Nat) ({ cls := "java/lang/Throwable", name := "<init>", desc := "(Ljava/lang/String;)V" } : Jvm.MethodName)) ∈ UW := uw_at 501 (by decide +kernel) rfl
theorem uw_502 : (Jvm.Cond.instanceMethod ({ cls := "java/lang/Throwable", name := "<init>", desc := "(Ljava/lang/String;)V" } : Jvm.MethodName)) ∈ UW := uw_at 502 (by decide +kernel) rfl
set_option maxRecDepth 100000 in
theorem uw_503 : (Jvm.Cond.code ({ cls := "java/lang/Throwable", name := "<init>", desc := "(Ljava/lang/String;)V" } : Jvm.MethodName) prog_20_method_2_code (2 : Nat) (Option.none : Option Jvm.ClassFile.FieldType)) ∈ UW := uw_at 503 rfl rfl
theorem uw_504 : (Jvm.Cond.fieldLink "java/lang/Throwable" (198 : Nat) "java/lang/Throwable" "backtrace" "Ljava/lang/Object;") ∈ UW := uw_at 504 (by decide +kernel) rfl
theorem uw_505 : (Jvm.Cond.fieldLink "java/lang/Throwable" (31 : Nat) "java/lang/Throwable" "detailMessage" "Ljava/lang/String;") ∈ UW := uw_at 505 (by decide +kernel) rfl
theorem uw_506 : (Jvm.Cond.fieldLink "java/lang/Throwable" (7 : Nat) "java/lang/Throwable" "cause" "Ljava/lang/Throwable;") ∈ UW := uw_at 506 (by decide +kernel) rfl
theorem uw_507 : (Jvm.Cond.fieldLink "java/lang/Throwable" (17 : Nat) "java/lang/Throwable" "stackTrace" "[Ljava/lang/StackTraceElement;") ∈ UW := uw_at 507 (by decide +kernel) rfl
theorem uw_508 : (Jvm.Cond.fieldLink "java/lang/Throwable" (24 : Nat) "java/lang/Throwable" "suppressedExceptions" "Ljava/util/List;") ∈ UW := uw_at 508 (by decide +kernel) rfl
theorem uw_513 : (Jvm.Cond.lays "java/lang/IllegalArgumentException" "java/lang/Throwable" "depth" "I") ∈ UW := uw_at 513 (by decide +kernel) rfl
theorem uw_517 : (Jvm.Cond.arrayClass Jvm.ClassFile.FieldType.byte) ∈ UW := uw_at 517 (by decide +kernel) rfl
theorem uw_518 : (Jvm.Cond.classLink "StabilitySums" (96 : Nat) "java/lang/IllegalStateException") ∈ UW := uw_at 518 (by decide +kernel) rfl
theorem uw_519 : (Jvm.Cond.instantiable "java/lang/IllegalStateException" (6 : Nat)) ∈ UW := uw_at 519 (by decide +kernel) rfl
theorem uw_521 : (Jvm.Cond.selects "java/lang/IllegalStateException" ({ cls := "java/lang/Throwable", name := "fillInStackTrace", desc := "(I)Ljava/lang/Throwable;" } : Jvm.MethodName) ({ cls := "java/lang/Throwable", name := "fillInStackTrace", desc := "(I)Ljava/lang/Throwable;" } : Jvm.MethodName)) ∈ UW := uw_at 521 (by decide +kernel) rfl
theorem uw_522 : (Jvm.Cond.lays "java/lang/IllegalStateException" "java/lang/Throwable" "cause" "Ljava/lang/Throwable;") ∈ UW := uw_at 522 (by decide +kernel) rfl
theorem uw_523 : (Jvm.Cond.lays "java/lang/IllegalStateException" "java/lang/Throwable" "stackTrace" "[Ljava/lang/StackTraceElement;") ∈ UW := uw_at 523 (by decide +kernel) rfl
theorem uw_524 : (Jvm.Cond.lays "java/lang/IllegalStateException" "java/lang/Throwable" "suppressedExceptions" "Ljava/util/List;") ∈ UW := uw_at 524 (by decide +kernel) rfl
theorem uw_525 : (Jvm.Cond.lays "java/lang/IllegalStateException" "java/lang/Throwable" "detailMessage" "Ljava/lang/String;") ∈ UW := uw_at 525 (by decide +kernel) rfl
theorem uw_526 : (Jvm.Cond.lays "java/lang/IllegalStateException" "java/lang/Throwable" "backtrace" "Ljava/lang/Object;") ∈ UW := uw_at 526 (by decide +kernel) rfl
theorem uw_528 : (Jvm.Cond.methodLink "StabilitySums" (100 : Nat) ({ cls := "java/lang/IllegalStateException", name := "<init>", desc := "(Ljava/lang/String;)V" } : Jvm.MethodName)) ∈ UW := uw_at 528 (by decide +kernel) rfl
theorem uw_529 : (Jvm.Cond.instanceMethod ({ cls := "java/lang/IllegalStateException", name := "<init>", desc := "(Ljava/lang/String;)V" } : Jvm.MethodName)) ∈ UW := uw_at 529 (by decide +kernel) rfl
set_option maxRecDepth 100000 in
theorem uw_530 : (Jvm.Cond.code ({ cls := "java/lang/IllegalStateException", name := "<init>", desc := "(Ljava/lang/String;)V" } : Jvm.MethodName) prog_15_method_2_code (2 : Nat) (Option.none : Option Jvm.ClassFile.FieldType)) ∈ UW := uw_at 530 rfl rfl
theorem uw_531 : (Jvm.Cond.methodLink "java/lang/IllegalStateException" (7 : Nat) ({ cls := "java/lang/RuntimeException", name := "<init>", desc := "(Ljava/lang/String;)V" } : Jvm.MethodName)) ∈ UW := uw_at 531 (by decide +kernel) rfl
theorem uw_532 : (Jvm.Cond.lays "java/lang/IllegalStateException" "java/lang/Throwable" "depth" "I") ∈ UW := uw_at 532 (by decide +kernel) rfl
theorem uw_534 : (Jvm.Cond.methodLink "StabilitySums" (101 : Nat) ({ cls := "StabilitySums$Weights", name := "append", desc := "(JJJJ)I" } : Jvm.MethodName)) ∈ UW := uw_at 534 (by decide +kernel) rfl
theorem uw_535 : (Jvm.Cond.instanceMethod ({ cls := "StabilitySums$Weights", name := "append", desc := "(JJJJ)I" } : Jvm.MethodName)) ∈ UW := uw_at 535 (by decide +kernel) rfl
theorem uw_536 : (Jvm.Cond.selects "StabilitySums$Weights" ({ cls := "StabilitySums$Weights", name := "append", desc := "(JJJJ)I" } : Jvm.MethodName) ({ cls := "StabilitySums$Weights", name := "append", desc := "(JJJJ)I" } : Jvm.MethodName)) ∈ UW := uw_at 536 (by decide +kernel) rfl
set_option maxRecDepth 100000 in
theorem uw_537 : (Jvm.Cond.code ({ cls := "StabilitySums$Weights", name := "append", desc := "(JJJJ)I" } : Jvm.MethodName) prog_9_method_2_code (10 : Nat) (Option.some Jvm.ClassFile.FieldType.int)) ∈ UW := uw_at 537 rfl rfl
theorem uw_538 : (Jvm.Cond.methodLink "StabilitySumsLaw" (76 : Nat) ({ cls := "StabilitySumsLaw", name := "tank", desc := "(LStabilitySums;JJJJJ[J)I" } : Jvm.MethodName)) ∈ UW := uw_at 538 (by decide +kernel) rfl
theorem uw_539 : (Jvm.Cond.static ({ cls := "StabilitySumsLaw", name := "tank", desc := "(LStabilitySums;JJJJJ[J)I" } : Jvm.MethodName)) ∈ UW := uw_at 539 (by decide +kernel) rfl
set_option maxRecDepth 100000 in
theorem uw_540 : (Jvm.Cond.codeWith ({ cls := "StabilitySumsLaw", name := "tank", desc := "(LStabilitySums;JJJJJ[J)I" } : Jvm.MethodName) method_4_code (13 : Nat) (Option.some Jvm.ClassFile.FieldType.int) [((0 : Nat), (17 : Nat), (20 : Nat), (13 : Nat)), ((0 : Nat), (17 : Nat), (24 : Nat), (15 : Nat))]) ∈ UW := uw_at 540 rfl rfl
theorem uw_541 : (Jvm.Cond.methodLink "StabilitySumsLaw" (17 : Nat) ({ cls := "StabilitySums", name := "tank", desc := "(JJJJJ)I" } : Jvm.MethodName)) ∈ UW := uw_at 541 (by decide +kernel) rfl
theorem uw_542 : (Jvm.Cond.instanceMethod ({ cls := "StabilitySums", name := "tank", desc := "(JJJJJ)I" } : Jvm.MethodName)) ∈ UW := uw_at 542 (by decide +kernel) rfl
theorem uw_543 : (Jvm.Cond.selects "StabilitySums" ({ cls := "StabilitySums", name := "tank", desc := "(JJJJJ)I" } : Jvm.MethodName) ({ cls := "StabilitySums", name := "tank", desc := "(JJJJJ)I" } : Jvm.MethodName)) ∈ UW := uw_at 543 (by decide +kernel) rfl
set_option maxRecDepth 100000 in
theorem uw_544 : (Jvm.Cond.code ({ cls := "StabilitySums", name := "tank", desc := "(JJJJJ)I" } : Jvm.MethodName) prog_1_method_3_code (11 : Nat) (Option.some Jvm.ClassFile.FieldType.int)) ∈ UW := uw_at 544 rfl rfl
theorem uw_545 : (Jvm.Cond.constantLong "StabilitySums" (107 : Nat) (40000 : Int64)) ∈ UW := uw_at 545 (by decide +kernel) rfl
theorem uw_546 : (Jvm.Cond.constantLong "StabilitySums" (109 : Nat) (1000000000 : Int64)) ∈ UW := uw_at 546 (by decide +kernel) rfl
theorem uw_549 : (Jvm.Cond.methodLink "StabilitySums" (116 : Nat) ({ cls := "StabilitySums$Tanks", name := "append", desc := "(JJJJJ)I" } : Jvm.MethodName)) ∈ UW := uw_at 549 (by decide +kernel) rfl
theorem uw_550 : (Jvm.Cond.instanceMethod ({ cls := "StabilitySums$Tanks", name := "append", desc := "(JJJJJ)I" } : Jvm.MethodName)) ∈ UW := uw_at 550 (by decide +kernel) rfl
theorem uw_551 : (Jvm.Cond.selects "StabilitySums$Tanks" ({ cls := "StabilitySums$Tanks", name := "append", desc := "(JJJJJ)I" } : Jvm.MethodName) ({ cls := "StabilitySums$Tanks", name := "append", desc := "(JJJJJ)I" } : Jvm.MethodName)) ∈ UW := uw_at 551 (by decide +kernel) rfl
set_option maxRecDepth 100000 in
theorem uw_552 : (Jvm.Cond.code ({ cls := "StabilitySums$Tanks", name := "append", desc := "(JJJJJ)I" } : Jvm.MethodName) prog_8_method_2_code (12 : Nat) (Option.some Jvm.ClassFile.FieldType.int)) ∈ UW := uw_at 552 rfl rfl
theorem uw_553 : (Jvm.Cond.methodLink "StabilitySumsLaw" (80 : Nat) ({ cls := "StabilitySumsLaw", name := "filled", desc := "(LStabilitySums;IJ[J)I" } : Jvm.MethodName)) ∈ UW := uw_at 553 (by decide +kernel) rfl
theorem uw_554 : (Jvm.Cond.static ({ cls := "StabilitySumsLaw", name := "filled", desc := "(LStabilitySums;IJ[J)I" } : Jvm.MethodName)) ∈ UW := uw_at 554 (by decide +kernel) rfl
set_option maxRecDepth 100000 in
theorem uw_555 : (Jvm.Cond.codeWith ({ cls := "StabilitySumsLaw", name := "filled", desc := "(LStabilitySums;IJ[J)I" } : Jvm.MethodName) method_5_code (6 : Nat) (Option.some Jvm.ClassFile.FieldType.int) [((0 : Nat), (11 : Nat), (14 : Nat), (25 : Nat))]) ∈ UW := uw_at 555 rfl rfl
theorem uw_556 : (Jvm.Cond.classLink "StabilitySumsLaw" (25 : Nat) "java/lang/IndexOutOfBoundsException") ∈ UW := uw_at 556 (by decide +kernel) rfl
theorem uw_557 : (Jvm.Cond.methodLink "StabilitySumsLaw" (21 : Nat) ({ cls := "StabilitySums", name := "filled", desc := "(IJ)I" } : Jvm.MethodName)) ∈ UW := uw_at 557 (by decide +kernel) rfl
theorem uw_558 : (Jvm.Cond.instanceMethod ({ cls := "StabilitySums", name := "filled", desc := "(IJ)I" } : Jvm.MethodName)) ∈ UW := uw_at 558 (by decide +kernel) rfl
theorem uw_559 : (Jvm.Cond.selects "StabilitySums" ({ cls := "StabilitySums", name := "filled", desc := "(IJ)I" } : Jvm.MethodName) ({ cls := "StabilitySums", name := "filled", desc := "(IJ)I" } : Jvm.MethodName)) ∈ UW := uw_at 559 (by decide +kernel) rfl
set_option maxRecDepth 100000 in
theorem uw_560 : (Jvm.Cond.code ({ cls := "StabilitySums", name := "filled", desc := "(IJ)I" } : Jvm.MethodName) prog_1_method_4_code (4 : Nat) (Option.some Jvm.ClassFile.FieldType.int)) ∈ UW := uw_at 560 rfl rfl
theorem uw_561 : (Jvm.Cond.classLink "StabilitySums" (119 : Nat) "java/lang/IndexOutOfBoundsException") ∈ UW := uw_at 561 (by decide +kernel) rfl
theorem uw_562 : (Jvm.Cond.instantiable "java/lang/IndexOutOfBoundsException" (6 : Nat)) ∈ UW := uw_at 562 (by decide +kernel) rfl
theorem uw_564 : (Jvm.Cond.selects "java/lang/IndexOutOfBoundsException" ({ cls := "java/lang/Throwable", name := "fillInStackTrace", desc := "(I)Ljava/lang/Throwable;" } : Jvm.MethodName) ({ cls := "java/lang/Throwable", name := "fillInStackTrace", desc := "(I)Ljava/lang/Throwable;" } : Jvm.MethodName)) ∈ UW := uw_at 564 (by decide +kernel) rfl
theorem uw_565 : (Jvm.Cond.lays "java/lang/IndexOutOfBoundsException" "java/lang/Throwable" "cause" "Ljava/lang/Throwable;") ∈ UW := uw_at 565 (by decide +kernel) rfl
theorem uw_566 : (Jvm.Cond.lays "java/lang/IndexOutOfBoundsException" "java/lang/Throwable" "stackTrace" "[Ljava/lang/StackTraceElement;") ∈ UW := uw_at 566 (by decide +kernel) rfl
theorem uw_567 : (Jvm.Cond.lays "java/lang/IndexOutOfBoundsException" "java/lang/Throwable" "suppressedExceptions" "Ljava/util/List;") ∈ UW := uw_at 567 (by decide +kernel) rfl
theorem uw_568 : (Jvm.Cond.lays "java/lang/IndexOutOfBoundsException" "java/lang/Throwable" "detailMessage" "Ljava/lang/String;") ∈ UW := uw_at 568 (by decide +kernel) rfl
theorem uw_569 : (Jvm.Cond.lays "java/lang/IndexOutOfBoundsException" "java/lang/Throwable" "backtrace" "Ljava/lang/Object;") ∈ UW := uw_at 569 (by decide +kernel) rfl
theorem uw_571 : (Jvm.Cond.methodLink "StabilitySums" (123 : Nat) ({ cls := "java/lang/IndexOutOfBoundsException", name := "<init>", desc := "(Ljava/lang/String;)V" } : Jvm.MethodName)) ∈ UW := uw_at 571 (by decide +kernel) rfl
theorem uw_572 : (Jvm.Cond.instanceMethod ({ cls := "java/lang/IndexOutOfBoundsException", name := "<init>", desc := "(Ljava/lang/String;)V" } : Jvm.MethodName)) ∈ UW := uw_at 572 (by decide +kernel) rfl
set_option maxRecDepth 100000 in
theorem uw_573 : (Jvm.Cond.code ({ cls := "java/lang/IndexOutOfBoundsException", name := "<init>", desc := "(Ljava/lang/String;)V" } : Jvm.MethodName) prog_16_method_2_code (2 : Nat) (Option.none : Option Jvm.ClassFile.FieldType)) ∈ UW := uw_at 573 rfl rfl
theorem uw_574 : (Jvm.Cond.methodLink "java/lang/IndexOutOfBoundsException" (7 : Nat) ({ cls := "java/lang/RuntimeException", name := "<init>", desc := "(Ljava/lang/String;)V" } : Jvm.MethodName)) ∈ UW := uw_at 574 (by decide +kernel) rfl
theorem uw_575 : (Jvm.Cond.lays "java/lang/IndexOutOfBoundsException" "java/lang/Throwable" "depth" "I") ∈ UW := uw_at 575 (by decide +kernel) rfl
theorem uw_577 : (Jvm.Cond.methodLink "StabilitySumsLaw" (84 : Nat) ({ cls := "StabilitySumsLaw", name := "hydro", desc := "(LStabilitySums;JJJ[J)I" } : Jvm.MethodName)) ∈ UW := uw_at 577 (by decide +kernel) rfl
theorem uw_578 : (Jvm.Cond.static ({ cls := "StabilitySumsLaw", name := "hydro", desc := "(LStabilitySums;JJJ[J)I" } : Jvm.MethodName)) ∈ UW := uw_at 578 (by decide +kernel) rfl
set_option maxRecDepth 100000 in
theorem uw_579 : (Jvm.Cond.codeWith ({ cls := "StabilitySumsLaw", name := "hydro", desc := "(LStabilitySums;JJJ[J)I" } : Jvm.MethodName) method_6_code (9 : Nat) (Option.some Jvm.ClassFile.FieldType.int) [((0 : Nat), (13 : Nat), (16 : Nat), (13 : Nat)), ((0 : Nat), (13 : Nat), (20 : Nat), (15 : Nat))]) ∈ UW := uw_at 579 rfl rfl
theorem uw_580 : (Jvm.Cond.methodLink "StabilitySumsLaw" (27 : Nat) ({ cls := "StabilitySums", name := "hydro", desc := "(JJJ)I" } : Jvm.MethodName)) ∈ UW := uw_at 580 (by decide +kernel) rfl
theorem uw_581 : (Jvm.Cond.instanceMethod ({ cls := "StabilitySums", name := "hydro", desc := "(JJJ)I" } : Jvm.MethodName)) ∈ UW := uw_at 581 (by decide +kernel) rfl
theorem uw_582 : (Jvm.Cond.selects "StabilitySums" ({ cls := "StabilitySums", name := "hydro", desc := "(JJJ)I" } : Jvm.MethodName) ({ cls := "StabilitySums", name := "hydro", desc := "(JJJ)I" } : Jvm.MethodName)) ∈ UW := uw_at 582 (by decide +kernel) rfl
set_option maxRecDepth 100000 in
theorem uw_583 : (Jvm.Cond.code ({ cls := "StabilitySums", name := "hydro", desc := "(JJJ)I" } : Jvm.MethodName) prog_1_method_5_code (7 : Nat) (Option.some Jvm.ClassFile.FieldType.int)) ∈ UW := uw_at 583 rfl rfl
theorem uw_584 : (Jvm.Cond.constantLong "StabilitySums" (131 : Nat) (5000000 : Int64)) ∈ UW := uw_at 584 (by decide +kernel) rfl
theorem uw_585 : (Jvm.Cond.methodLink "StabilitySums" (137 : Nat) ({ cls := "StabilitySums$Table", name := "lastDisplacement", desc := "()J" } : Jvm.MethodName)) ∈ UW := uw_at 585 (by decide +kernel) rfl
theorem uw_586 : (Jvm.Cond.instanceMethod ({ cls := "StabilitySums$Table", name := "lastDisplacement", desc := "()J" } : Jvm.MethodName)) ∈ UW := uw_at 586 (by decide +kernel) rfl
theorem uw_587 : (Jvm.Cond.selects "StabilitySums$Table" ({ cls := "StabilitySums$Table", name := "lastDisplacement", desc := "()J" } : Jvm.MethodName) ({ cls := "StabilitySums$Table", name := "lastDisplacement", desc := "()J" } : Jvm.MethodName)) ∈ UW := uw_at 587 (by decide +kernel) rfl
set_option maxRecDepth 100000 in
theorem uw_588 : (Jvm.Cond.code ({ cls := "StabilitySums$Table", name := "lastDisplacement", desc := "()J" } : Jvm.MethodName) prog_7_method_3_code (1 : Nat) (Option.some Jvm.ClassFile.FieldType.long)) ∈ UW := uw_at 588 rfl rfl
theorem uw_591 : (Jvm.Cond.methodLink "StabilitySums" (146 : Nat) ({ cls := "StabilitySums$Table", name := "append", desc := "(JJJ)I" } : Jvm.MethodName)) ∈ UW := uw_at 591 (by decide +kernel) rfl
theorem uw_592 : (Jvm.Cond.instanceMethod ({ cls := "StabilitySums$Table", name := "append", desc := "(JJJ)I" } : Jvm.MethodName)) ∈ UW := uw_at 592 (by decide +kernel) rfl
theorem uw_593 : (Jvm.Cond.selects "StabilitySums$Table" ({ cls := "StabilitySums$Table", name := "append", desc := "(JJJ)I" } : Jvm.MethodName) ({ cls := "StabilitySums$Table", name := "append", desc := "(JJJ)I" } : Jvm.MethodName)) ∈ UW := uw_at 593 (by decide +kernel) rfl
set_option maxRecDepth 100000 in
theorem uw_594 : (Jvm.Cond.code ({ cls := "StabilitySums$Table", name := "append", desc := "(JJJ)I" } : Jvm.MethodName) prog_7_method_2_code (7 : Nat) (Option.some Jvm.ClassFile.FieldType.int)) ∈ UW := uw_at 594 rfl rfl
theorem uw_595 : (Jvm.Cond.methodLink "StabilitySumsLaw" (93 : Nat) ({ cls := "StabilitySumsLaw", name := "value", desc := "(LStabilitySums;II[J)I" } : Jvm.MethodName)) ∈ UW := uw_at 595 (by decide +kernel) rfl
theorem uw_596 : (Jvm.Cond.static ({ cls := "StabilitySumsLaw", name := "value", desc := "(LStabilitySums;II[J)I" } : Jvm.MethodName)) ∈ UW := uw_at 596 (by decide +kernel) rfl
set_option maxRecDepth 100000 in
theorem uw_597 : (Jvm.Cond.codeWith ({ cls := "StabilitySumsLaw", name := "value", desc := "(LStabilitySums;II[J)I" } : Jvm.MethodName) method_7_code (5 : Nat) (Option.some Jvm.ClassFile.FieldType.int) [((0 : Nat), (9 : Nat), (12 : Nat), (13 : Nat)), ((0 : Nat), (9 : Nat), (16 : Nat), (35 : Nat))]) ∈ UW := uw_at 597 rfl rfl
theorem uw_598 : (Jvm.Cond.classLink "StabilitySumsLaw" (35 : Nat) "java/lang/ArithmeticException") ∈ UW := uw_at 598 (by decide +kernel) rfl
theorem uw_599 : (Jvm.Cond.methodLink "StabilitySumsLaw" (31 : Nat) ({ cls := "StabilitySums", name := "value", desc := "(II)J" } : Jvm.MethodName)) ∈ UW := uw_at 599 (by decide +kernel) rfl
theorem uw_600 : (Jvm.Cond.instanceMethod ({ cls := "StabilitySums", name := "value", desc := "(II)J" } : Jvm.MethodName)) ∈ UW := uw_at 600 (by decide +kernel) rfl
theorem uw_601 : (Jvm.Cond.selects "StabilitySums" ({ cls := "StabilitySums", name := "value", desc := "(II)J" } : Jvm.MethodName) ({ cls := "StabilitySums", name := "value", desc := "(II)J" } : Jvm.MethodName)) ∈ UW := uw_at 601 (by decide +kernel) rfl
set_option maxRecDepth 100000 in
theorem uw_602 : (Jvm.Cond.code ({ cls := "StabilitySums", name := "value", desc := "(II)J" } : Jvm.MethodName) prog_1_method_7_code (3 : Nat) (Option.some Jvm.ClassFile.FieldType.long)) ∈ UW := uw_at 602 rfl rfl
theorem uw_603 : (Jvm.Cond.constantLong "StabilitySums" (149 : Nat) (7 : Int64)) ∈ UW := uw_at 603 (by decide +kernel) rfl
theorem uw_605 : (Jvm.Cond.classLink "StabilitySums" (162 : Nat) "java/lang/ArithmeticException") ∈ UW := uw_at 605 (by decide +kernel) rfl
theorem uw_606 : (Jvm.Cond.instantiable "java/lang/ArithmeticException" (6 : Nat)) ∈ UW := uw_at 606 (by decide +kernel) rfl
theorem uw_608 : (Jvm.Cond.selects "java/lang/ArithmeticException" ({ cls := "java/lang/Throwable", name := "fillInStackTrace", desc := "(I)Ljava/lang/Throwable;" } : Jvm.MethodName) ({ cls := "java/lang/Throwable", name := "fillInStackTrace", desc := "(I)Ljava/lang/Throwable;" } : Jvm.MethodName)) ∈ UW := uw_at 608 (by decide +kernel) rfl
theorem uw_609 : (Jvm.Cond.lays "java/lang/ArithmeticException" "java/lang/Throwable" "cause" "Ljava/lang/Throwable;") ∈ UW := uw_at 609 (by decide +kernel) rfl
theorem uw_610 : (Jvm.Cond.lays "java/lang/ArithmeticException" "java/lang/Throwable" "stackTrace" "[Ljava/lang/StackTraceElement;") ∈ UW := uw_at 610 (by decide +kernel) rfl
theorem uw_611 : (Jvm.Cond.lays "java/lang/ArithmeticException" "java/lang/Throwable" "suppressedExceptions" "Ljava/util/List;") ∈ UW := uw_at 611 (by decide +kernel) rfl
theorem uw_612 : (Jvm.Cond.lays "java/lang/ArithmeticException" "java/lang/Throwable" "detailMessage" "Ljava/lang/String;") ∈ UW := uw_at 612 (by decide +kernel) rfl
theorem uw_613 : (Jvm.Cond.lays "java/lang/ArithmeticException" "java/lang/Throwable" "backtrace" "Ljava/lang/Object;") ∈ UW := uw_at 613 (by decide +kernel) rfl
theorem uw_615 : (Jvm.Cond.methodLink "StabilitySums" (166 : Nat) ({ cls := "java/lang/ArithmeticException", name := "<init>", desc := "(Ljava/lang/String;)V" } : Jvm.MethodName)) ∈ UW := uw_at 615 (by decide +kernel) rfl
theorem uw_616 : (Jvm.Cond.instanceMethod ({ cls := "java/lang/ArithmeticException", name := "<init>", desc := "(Ljava/lang/String;)V" } : Jvm.MethodName)) ∈ UW := uw_at 616 (by decide +kernel) rfl
set_option maxRecDepth 100000 in
theorem uw_617 : (Jvm.Cond.code ({ cls := "java/lang/ArithmeticException", name := "<init>", desc := "(Ljava/lang/String;)V" } : Jvm.MethodName) prog_12_method_2_code (2 : Nat) (Option.none : Option Jvm.ClassFile.FieldType)) ∈ UW := uw_at 617 rfl rfl
theorem uw_618 : (Jvm.Cond.methodLink "java/lang/ArithmeticException" (7 : Nat) ({ cls := "java/lang/RuntimeException", name := "<init>", desc := "(Ljava/lang/String;)V" } : Jvm.MethodName)) ∈ UW := uw_at 618 (by decide +kernel) rfl
theorem uw_619 : (Jvm.Cond.lays "java/lang/ArithmeticException" "java/lang/Throwable" "depth" "I") ∈ UW := uw_at 619 (by decide +kernel) rfl
theorem uw_621 : (Jvm.Cond.methodLink "StabilitySums" (174 : Nat) ({ cls := "StabilitySums$Fraction", name := "reduce", desc := "()V" } : Jvm.MethodName)) ∈ UW := uw_at 621 (by decide +kernel) rfl
theorem uw_622 : (Jvm.Cond.instanceMethod ({ cls := "StabilitySums$Fraction", name := "reduce", desc := "()V" } : Jvm.MethodName)) ∈ UW := uw_at 622 (by decide +kernel) rfl
theorem uw_623 : (Jvm.Cond.selects "StabilitySums$Fraction" ({ cls := "StabilitySums$Fraction", name := "reduce", desc := "()V" } : Jvm.MethodName) ({ cls := "StabilitySums$Fraction", name := "reduce", desc := "()V" } : Jvm.MethodName)) ∈ UW := uw_at 623 (by decide +kernel) rfl
set_option maxRecDepth 100000 in
theorem uw_624 : (Jvm.Cond.code ({ cls := "StabilitySums$Fraction", name := "reduce", desc := "()V" } : Jvm.MethodName) prog_3_method_5_code (3 : Nat) (Option.none : Option Jvm.ClassFile.FieldType)) ∈ UW := uw_at 624 rfl rfl
theorem uw_625 : (Jvm.Cond.methodLink "StabilitySums$Fraction" (22 : Nat) ({ cls := "java/lang/Math", name := "abs", desc := "(J)J" } : Jvm.MethodName)) ∈ UW := uw_at 625 (by decide +kernel) rfl
theorem uw_626 : (Jvm.Cond.methodLink "StabilitySums$Fraction" (28 : Nat) ({ cls := "StabilitySums$Fraction", name := "commonDivisor", desc := "(JJ)J" } : Jvm.MethodName)) ∈ UW := uw_at 626 (by decide +kernel) rfl
theorem uw_627 : (Jvm.Cond.static ({ cls := "StabilitySums$Fraction", name := "commonDivisor", desc := "(JJ)J" } : Jvm.MethodName)) ∈ UW := uw_at 627 (by decide +kernel) rfl
set_option maxRecDepth 100000 in
theorem uw_628 : (Jvm.Cond.code ({ cls := "StabilitySums$Fraction", name := "commonDivisor", desc := "(JJ)J" } : Jvm.MethodName) prog_3_method_6_code (11 : Nat) (Option.some Jvm.ClassFile.FieldType.long)) ∈ UW := uw_at 628 rfl rfl
theorem uw_629 : (Jvm.Cond.methodLink "StabilitySumsLaw" (97 : Nat) ({ cls := "StabilitySumsLaw", name := "shear", desc := "(LStabilitySums;J[J)I" } : Jvm.MethodName)) ∈ UW := uw_at 629 (by decide +kernel) rfl
theorem uw_630 : (Jvm.Cond.static ({ cls := "StabilitySumsLaw", name := "shear", desc := "(LStabilitySums;J[J)I" } : Jvm.MethodName)) ∈ UW := uw_at 630 (by decide +kernel) rfl
set_option maxRecDepth 100000 in
theorem uw_631 : (Jvm.Cond.codeWith ({ cls := "StabilitySumsLaw", name := "shear", desc := "(LStabilitySums;J[J)I" } : Jvm.MethodName) method_8_code (5 : Nat) (Option.some Jvm.ClassFile.FieldType.int) [((0 : Nat), (8 : Nat), (11 : Nat), (13 : Nat))]) ∈ UW := uw_at 631 rfl rfl
theorem uw_632 : (Jvm.Cond.methodLink "StabilitySumsLaw" (37 : Nat) ({ cls := "StabilitySums", name := "shear", desc := "(J)J" } : Jvm.MethodName)) ∈ UW := uw_at 632 (by decide +kernel) rfl
theorem uw_633 : (Jvm.Cond.instanceMethod ({ cls := "StabilitySums", name := "shear", desc := "(J)J" } : Jvm.MethodName)) ∈ UW := uw_at 633 (by decide +kernel) rfl
theorem uw_634 : (Jvm.Cond.selects "StabilitySums" ({ cls := "StabilitySums", name := "shear", desc := "(J)J" } : Jvm.MethodName) ({ cls := "StabilitySums", name := "shear", desc := "(J)J" } : Jvm.MethodName)) ∈ UW := uw_at 634 (by decide +kernel) rfl
set_option maxRecDepth 100000 in
theorem uw_635 : (Jvm.Cond.code ({ cls := "StabilitySums", name := "shear", desc := "(J)J" } : Jvm.MethodName) prog_1_method_8_code (3 : Nat) (Option.some Jvm.ClassFile.FieldType.long)) ∈ UW := uw_at 635 rfl rfl
theorem uw_637 : (Jvm.Cond.methodLink "StabilitySumsLaw" (101 : Nat) ({ cls := "StabilitySumsLaw", name := "bending", desc := "(LStabilitySums;J[J)I" } : Jvm.MethodName)) ∈ UW := uw_at 637 (by decide +kernel) rfl
theorem uw_638 : (Jvm.Cond.static ({ cls := "StabilitySumsLaw", name := "bending", desc := "(LStabilitySums;J[J)I" } : Jvm.MethodName)) ∈ UW := uw_at 638 (by decide +kernel) rfl
set_option maxRecDepth 100000 in
theorem uw_639 : (Jvm.Cond.codeWith ({ cls := "StabilitySumsLaw", name := "bending", desc := "(LStabilitySums;J[J)I" } : Jvm.MethodName) method_9_code (5 : Nat) (Option.some Jvm.ClassFile.FieldType.int) [((0 : Nat), (8 : Nat), (11 : Nat), (13 : Nat))]) ∈ UW := uw_at 639 rfl rfl
theorem uw_640 : (Jvm.Cond.methodLink "StabilitySumsLaw" (41 : Nat) ({ cls := "StabilitySums", name := "bending", desc := "(J)J" } : Jvm.MethodName)) ∈ UW := uw_at 640 (by decide +kernel) rfl
theorem uw_641 : (Jvm.Cond.instanceMethod ({ cls := "StabilitySums", name := "bending", desc := "(J)J" } : Jvm.MethodName)) ∈ UW := uw_at 641 (by decide +kernel) rfl
theorem uw_642 : (Jvm.Cond.selects "StabilitySums" ({ cls := "StabilitySums", name := "bending", desc := "(J)J" } : Jvm.MethodName) ({ cls := "StabilitySums", name := "bending", desc := "(J)J" } : Jvm.MethodName)) ∈ UW := uw_at 642 (by decide +kernel) rfl
set_option maxRecDepth 100000 in
theorem uw_643 : (Jvm.Cond.code ({ cls := "StabilitySums", name := "bending", desc := "(J)J" } : Jvm.MethodName) prog_1_method_9_code (3 : Nat) (Option.some Jvm.ClassFile.FieldType.long)) ∈ UW := uw_at 643 rfl rfl
theorem uw_644 : (Jvm.Cond.methodLink "StabilitySumsLaw" (104 : Nat) ({ cls := "StabilitySumsLaw", name := "limit", desc := "(LStabilitySums;IJJJ[J)I" } : Jvm.MethodName)) ∈ UW := uw_at 644 (by decide +kernel) rfl
theorem uw_645 : (Jvm.Cond.static ({ cls := "StabilitySumsLaw", name := "limit", desc := "(LStabilitySums;IJJJ[J)I" } : Jvm.MethodName)) ∈ UW := uw_at 645 (by decide +kernel) rfl
set_option maxRecDepth 100000 in
theorem uw_646 : (Jvm.Cond.codeWith ({ cls := "StabilitySumsLaw", name := "limit", desc := "(LStabilitySums;IJJJ[J)I" } : Jvm.MethodName) method_10_code (10 : Nat) (Option.some Jvm.ClassFile.FieldType.int) [((0 : Nat), (15 : Nat), (18 : Nat), (13 : Nat)), ((0 : Nat), (15 : Nat), (22 : Nat), (15 : Nat))]) ∈ UW := uw_at 646 rfl rfl
theorem uw_647 : (Jvm.Cond.methodLink "StabilitySumsLaw" (44 : Nat) ({ cls := "StabilitySums", name := "limit", desc := "(IJJJ)I" } : Jvm.MethodName)) ∈ UW := uw_at 647 (by decide +kernel) rfl
theorem uw_648 : (Jvm.Cond.instanceMethod ({ cls := "StabilitySums", name := "limit", desc := "(IJJJ)I" } : Jvm.MethodName)) ∈ UW := uw_at 648 (by decide +kernel) rfl
theorem uw_649 : (Jvm.Cond.selects "StabilitySums" ({ cls := "StabilitySums", name := "limit", desc := "(IJJJ)I" } : Jvm.MethodName) ({ cls := "StabilitySums", name := "limit", desc := "(IJJJ)I" } : Jvm.MethodName)) ∈ UW := uw_at 649 (by decide +kernel) rfl
set_option maxRecDepth 100000 in
theorem uw_650 : (Jvm.Cond.code ({ cls := "StabilitySums", name := "limit", desc := "(IJJJ)I" } : Jvm.MethodName) prog_1_method_10_code (9 : Nat) (Option.some Jvm.ClassFile.FieldType.int)) ∈ UW := uw_at 650 rfl rfl
theorem uw_651 : (Jvm.Cond.constantLong "StabilitySums" (195 : Nat) (9 : Int64)) ∈ UW := uw_at 651 (by decide +kernel) rfl
theorem uw_652 : (Jvm.Cond.constantLong "StabilitySums" (197 : Nat) (-10000000000000 : Int64)) ∈ UW := uw_at 652 (by decide +kernel) rfl
theorem uw_653 : (Jvm.Cond.constantLong "StabilitySums" (199 : Nat) (10000000000000 : Int64)) ∈ UW := uw_at 653 (by decide +kernel) rfl
theorem uw_656 : (Jvm.Cond.methodLink "StabilitySums" (206 : Nat) ({ cls := "StabilitySums$Limits", name := "append", desc := "(IJJ)I" } : Jvm.MethodName)) ∈ UW := uw_at 656 (by decide +kernel) rfl
theorem uw_657 : (Jvm.Cond.instanceMethod ({ cls := "StabilitySums$Limits", name := "append", desc := "(IJJ)I" } : Jvm.MethodName)) ∈ UW := uw_at 657 (by decide +kernel) rfl
theorem uw_658 : (Jvm.Cond.selects "StabilitySums$Limits" ({ cls := "StabilitySums$Limits", name := "append", desc := "(IJJ)I" } : Jvm.MethodName) ({ cls := "StabilitySums$Limits", name := "append", desc := "(IJJ)I" } : Jvm.MethodName)) ∈ UW := uw_at 658 (by decide +kernel) rfl
set_option maxRecDepth 100000 in
theorem uw_659 : (Jvm.Cond.code ({ cls := "StabilitySums$Limits", name := "append", desc := "(IJJ)I" } : Jvm.MethodName) prog_4_method_2_code (6 : Nat) (Option.some Jvm.ClassFile.FieldType.int)) ∈ UW := uw_at 659 rfl rfl
theorem uw_660 : (Jvm.Cond.methodLink "StabilitySumsLaw" (117 : Nat) ({ cls := "StabilitySumsLaw", name := "fill", desc := "(LStabilitySums;I[J)I" } : Jvm.MethodName)) ∈ UW := uw_at 660 (by decide +kernel) rfl
theorem uw_661 : (Jvm.Cond.static ({ cls := "StabilitySumsLaw", name := "fill", desc := "(LStabilitySums;I[J)I" } : Jvm.MethodName)) ∈ UW := uw_at 661 (by decide +kernel) rfl
set_option maxRecDepth 100000 in
theorem uw_662 : (Jvm.Cond.codeWith ({ cls := "StabilitySumsLaw", name := "fill", desc := "(LStabilitySums;I[J)I" } : Jvm.MethodName) method_11_code (4 : Nat) (Option.some Jvm.ClassFile.FieldType.int) [((0 : Nat), (8 : Nat), (11 : Nat), (25 : Nat))]) ∈ UW := uw_at 662 rfl rfl
theorem uw_663 : (Jvm.Cond.methodLink "StabilitySumsLaw" (48 : Nat) ({ cls := "StabilitySums", name := "fill", desc := "(I)J" } : Jvm.MethodName)) ∈ UW := uw_at 663 (by decide +kernel) rfl
theorem uw_664 : (Jvm.Cond.instanceMethod ({ cls := "StabilitySums", name := "fill", desc := "(I)J" } : Jvm.MethodName)) ∈ UW := uw_at 664 (by decide +kernel) rfl
theorem uw_665 : (Jvm.Cond.selects "StabilitySums" ({ cls := "StabilitySums", name := "fill", desc := "(I)J" } : Jvm.MethodName) ({ cls := "StabilitySums", name := "fill", desc := "(I)J" } : Jvm.MethodName)) ∈ UW := uw_at 665 (by decide +kernel) rfl
set_option maxRecDepth 100000 in
theorem uw_666 : (Jvm.Cond.code ({ cls := "StabilitySums", name := "fill", desc := "(I)J" } : Jvm.MethodName) prog_1_method_13_code (2 : Nat) (Option.some Jvm.ClassFile.FieldType.long)) ∈ UW := uw_at 666 rfl rfl
theorem uw_667 : (Jvm.Cond.methodLink "StabilitySumsLaw" (121 : Nat) ({ cls := "StabilitySumsLaw", name := "plan", desc := "(LStabilitySums;ZIJ[J)I" } : Jvm.MethodName)) ∈ UW := uw_at 667 (by decide +kernel) rfl
theorem uw_668 : (Jvm.Cond.static ({ cls := "StabilitySumsLaw", name := "plan", desc := "(LStabilitySums;ZIJ[J)I" } : Jvm.MethodName)) ∈ UW := uw_at 668 (by decide +kernel) rfl
set_option maxRecDepth 100000 in
theorem uw_669 : (Jvm.Cond.codeWith ({ cls := "StabilitySumsLaw", name := "plan", desc := "(LStabilitySums;ZIJ[J)I" } : Jvm.MethodName) method_12_code (7 : Nat) (Option.some Jvm.ClassFile.FieldType.int) [((0 : Nat), (12 : Nat), (15 : Nat), (25 : Nat)), ((0 : Nat), (12 : Nat), (19 : Nat), (13 : Nat)), ((0 : Nat), (12 : Nat), (23 : Nat), (15 : Nat))]) ∈ UW := uw_at 669 rfl rfl
theorem uw_670 : (Jvm.Cond.methodLink "StabilitySumsLaw" (52 : Nat) ({ cls := "StabilitySums", name := "plan", desc := "(ZIJ)I" } : Jvm.MethodName)) ∈ UW := uw_at 670 (by decide +kernel) rfl
theorem uw_671 : (Jvm.Cond.instanceMethod ({ cls := "StabilitySums", name := "plan", desc := "(ZIJ)I" } : Jvm.MethodName)) ∈ UW := uw_at 671 (by decide +kernel) rfl
theorem uw_672 : (Jvm.Cond.selects "StabilitySums" ({ cls := "StabilitySums", name := "plan", desc := "(ZIJ)I" } : Jvm.MethodName) ({ cls := "StabilitySums", name := "plan", desc := "(ZIJ)I" } : Jvm.MethodName)) ∈ UW := uw_at 672 (by decide +kernel) rfl
set_option maxRecDepth 100000 in
theorem uw_673 : (Jvm.Cond.code ({ cls := "StabilitySums", name := "plan", desc := "(ZIJ)I" } : Jvm.MethodName) prog_1_method_14_code (10 : Nat) (Option.some Jvm.ClassFile.FieldType.int)) ∈ UW := uw_at 673 rfl rfl
theorem uw_677 : (Jvm.Cond.methodLink "StabilitySums" (228 : Nat) ({ cls := "StabilitySums$Steps", name := "append", desc := "(ZIJ)I" } : Jvm.MethodName)) ∈ UW := uw_at 677 (by decide +kernel) rfl
theorem uw_678 : (Jvm.Cond.instanceMethod ({ cls := "StabilitySums$Steps", name := "append", desc := "(ZIJ)I" } : Jvm.MethodName)) ∈ UW := uw_at 678 (by decide +kernel) rfl
theorem uw_679 : (Jvm.Cond.selects "StabilitySums$Steps" ({ cls := "StabilitySums$Steps", name := "append", desc := "(ZIJ)I" } : Jvm.MethodName) ({ cls := "StabilitySums$Steps", name := "append", desc := "(ZIJ)I" } : Jvm.MethodName)) ∈ UW := uw_at 679 (by decide +kernel) rfl
set_option maxRecDepth 100000 in
theorem uw_680 : (Jvm.Cond.code ({ cls := "StabilitySums$Steps", name := "append", desc := "(ZIJ)I" } : Jvm.MethodName) prog_5_method_2_code (6 : Nat) (Option.some Jvm.ClassFile.FieldType.int)) ∈ UW := uw_at 680 rfl rfl
theorem uw_681 : (Jvm.Cond.methodLink "StabilitySumsLaw" (125 : Nat) ({ cls := "StabilitySumsLaw", name := "step", desc := "(LStabilitySums;I[J)I" } : Jvm.MethodName)) ∈ UW := uw_at 681 (by decide +kernel) rfl
theorem uw_682 : (Jvm.Cond.static ({ cls := "StabilitySumsLaw", name := "step", desc := "(LStabilitySums;I[J)I" } : Jvm.MethodName)) ∈ UW := uw_at 682 (by decide +kernel) rfl
set_option maxRecDepth 100000 in
theorem uw_683 : (Jvm.Cond.codeWith ({ cls := "StabilitySumsLaw", name := "step", desc := "(LStabilitySums;I[J)I" } : Jvm.MethodName) method_13_code (4 : Nat) (Option.some Jvm.ClassFile.FieldType.int) [((0 : Nat), (9 : Nat), (12 : Nat), (25 : Nat))]) ∈ UW := uw_at 683 rfl rfl
theorem uw_684 : (Jvm.Cond.methodLink "StabilitySumsLaw" (56 : Nat) ({ cls := "StabilitySums", name := "step", desc := "(I)I" } : Jvm.MethodName)) ∈ UW := uw_at 684 (by decide +kernel) rfl
theorem uw_685 : (Jvm.Cond.instanceMethod ({ cls := "StabilitySums", name := "step", desc := "(I)I" } : Jvm.MethodName)) ∈ UW := uw_at 685 (by decide +kernel) rfl
theorem uw_686 : (Jvm.Cond.selects "StabilitySums" ({ cls := "StabilitySums", name := "step", desc := "(I)I" } : Jvm.MethodName) ({ cls := "StabilitySums", name := "step", desc := "(I)I" } : Jvm.MethodName)) ∈ UW := uw_at 686 (by decide +kernel) rfl
set_option maxRecDepth 100000 in
theorem uw_687 : (Jvm.Cond.code ({ cls := "StabilitySums", name := "step", desc := "(I)I" } : Jvm.MethodName) prog_1_method_15_code (3 : Nat) (Option.some Jvm.ClassFile.FieldType.int)) ∈ UW := uw_at 687 rfl rfl
theorem uw_689 : (Jvm.Cond.classLink "StabilitySumsLaw" (61 : Nat) "StabilitySumsModel") ∈ UW := uw_at 689 (by decide +kernel) rfl
theorem uw_690 : (Jvm.Cond.instantiable "StabilitySumsModel" (33 : Nat)) ∈ UW := uw_at 690 (by decide +kernel) rfl
theorem uw_691 : (Jvm.Cond.methodLink "StabilitySumsLaw" (63 : Nat) ({ cls := "StabilitySumsModel", name := "<init>", desc := "()V" } : Jvm.MethodName)) ∈ UW := uw_at 691 (by decide +kernel) rfl
theorem uw_692 : (Jvm.Cond.instanceMethod ({ cls := "StabilitySumsModel", name := "<init>", desc := "()V" } : Jvm.MethodName)) ∈ UW := uw_at 692 (by decide +kernel) rfl
set_option maxRecDepth 100000 in
theorem uw_693 : (Jvm.Cond.code ({ cls := "StabilitySumsModel", name := "<init>", desc := "()V" } : Jvm.MethodName) prog_11_method_1_code (1 : Nat) (Option.none : Option Jvm.ClassFile.FieldType)) ∈ UW := uw_at 693 rfl rfl
theorem uw_694 : (Jvm.Cond.methodLink "StabilitySumsModel" (1 : Nat) ({ cls := "java/lang/Object", name := "<init>", desc := "()V" } : Jvm.MethodName)) ∈ UW := uw_at 694 (by decide +kernel) rfl
theorem uw_695 : (Jvm.Cond.constantLong "StabilitySumsModel" (58 : Nat) (10000 : Int64)) ∈ UW := uw_at 695 (by decide +kernel) rfl
theorem uw_696 : (Jvm.Cond.fieldLink "StabilitySumsModel" (87 : Nat) "StabilitySumsModel" "thrown" "I") ∈ UW := uw_at 696 (by decide +kernel) rfl
theorem uw_697 : (Jvm.Cond.fieldLink "StabilitySumsModel" (97 : Nat) "StabilitySumsModel" "weights" "I") ∈ UW := uw_at 697 (by decide +kernel) rfl
theorem uw_698 : (Jvm.Cond.fieldLink "StabilitySumsModel" (7 : Nat) "StabilitySumsModel" "kg" "[J") ∈ UW := uw_at 698 (by decide +kernel) rfl
theorem uw_699 : (Jvm.Cond.fieldLink "StabilitySumsModel" (13 : Nat) "StabilitySumsModel" "wx" "[J") ∈ UW := uw_at 699 (by decide +kernel) rfl
theorem uw_700 : (Jvm.Cond.fieldLink "StabilitySumsModel" (16 : Nat) "StabilitySumsModel" "wy" "[J") ∈ UW := uw_at 700 (by decide +kernel) rfl
theorem uw_701 : (Jvm.Cond.fieldLink "StabilitySumsModel" (19 : Nat) "StabilitySumsModel" "wz" "[J") ∈ UW := uw_at 701 (by decide +kernel) rfl
theorem uw_702 : (Jvm.Cond.fieldLink "StabilitySumsModel" (100 : Nat) "StabilitySumsModel" "tanks" "I") ∈ UW := uw_at 702 (by decide +kernel) rfl
theorem uw_703 : (Jvm.Cond.fieldLink "StabilitySumsModel" (22 : Nat) "StabilitySumsModel" "most" "[J") ∈ UW := uw_at 703 (by decide +kernel) rfl
theorem uw_704 : (Jvm.Cond.fieldLink "StabilitySumsModel" (25 : Nat) "StabilitySumsModel" "surface" "[J") ∈ UW := uw_at 704 (by decide +kernel) rfl
theorem uw_705 : (Jvm.Cond.fieldLink "StabilitySumsModel" (28 : Nat) "StabilitySumsModel" "tx" "[J") ∈ UW := uw_at 705 (by decide +kernel) rfl
theorem uw_706 : (Jvm.Cond.fieldLink "StabilitySumsModel" (31 : Nat) "StabilitySumsModel" "ty" "[J") ∈ UW := uw_at 706 (by decide +kernel) rfl
theorem uw_707 : (Jvm.Cond.fieldLink "StabilitySumsModel" (34 : Nat) "StabilitySumsModel" "tz" "[J") ∈ UW := uw_at 707 (by decide +kernel) rfl
theorem uw_708 : (Jvm.Cond.fieldLink "StabilitySumsModel" (37 : Nat) "StabilitySumsModel" "full" "[J") ∈ UW := uw_at 708 (by decide +kernel) rfl
theorem uw_709 : (Jvm.Cond.fieldLink "StabilitySumsModel" (40 : Nat) "StabilitySumsModel" "nowKg" "[J") ∈ UW := uw_at 709 (by decide +kernel) rfl
theorem uw_710 : (Jvm.Cond.fieldLink "StabilitySumsModel" (43 : Nat) "StabilitySumsModel" "nowFull" "[J") ∈ UW := uw_at 710 (by decide +kernel) rfl
theorem uw_711 : (Jvm.Cond.fieldLink "StabilitySumsModel" (46 : Nat) "StabilitySumsModel" "bestFull" "[J") ∈ UW := uw_at 711 (by decide +kernel) rfl
theorem uw_712 : (Jvm.Cond.fieldLink "StabilitySumsModel" (103 : Nat) "StabilitySumsModel" "rows" "I") ∈ UW := uw_at 712 (by decide +kernel) rfl
theorem uw_713 : (Jvm.Cond.fieldLink "StabilitySumsModel" (49 : Nat) "StabilitySumsModel" "at" "[J") ∈ UW := uw_at 713 (by decide +kernel) rfl
theorem uw_714 : (Jvm.Cond.fieldLink "StabilitySumsModel" (52 : Nat) "StabilitySumsModel" "high" "[J") ∈ UW := uw_at 714 (by decide +kernel) rfl
theorem uw_715 : (Jvm.Cond.fieldLink "StabilitySumsModel" (55 : Nat) "StabilitySumsModel" "deep" "[J") ∈ UW := uw_at 715 (by decide +kernel) rfl
theorem uw_716 : (Jvm.Cond.fieldLink "StabilitySumsModel" (126 : Nat) "StabilitySumsModel" "left" "J") ∈ UW := uw_at 716 (by decide +kernel) rfl
theorem uw_717 : (Jvm.Cond.fieldLink "StabilitySumsModel" (60 : Nat) "StabilitySumsModel" "right" "J") ∈ UW := uw_at 717 (by decide +kernel) rfl
theorem uw_718 : (Jvm.Cond.fieldLink "StabilitySumsModel" (179 : Nat) "StabilitySumsModel" "limits" "I") ∈ UW := uw_at 718 (by decide +kernel) rfl
theorem uw_719 : (Jvm.Cond.fieldLink "StabilitySumsModel" (64 : Nat) "StabilitySumsModel" "of" "[I") ∈ UW := uw_at 719 (by decide +kernel) rfl
theorem uw_720 : (Jvm.Cond.fieldLink "StabilitySumsModel" (68 : Nat) "StabilitySumsModel" "cut" "[J") ∈ UW := uw_at 720 (by decide +kernel) rfl
theorem uw_721 : (Jvm.Cond.fieldLink "StabilitySumsModel" (71 : Nat) "StabilitySumsModel" "low" "[J") ∈ UW := uw_at 721 (by decide +kernel) rfl
theorem uw_722 : (Jvm.Cond.fieldLink "StabilitySumsModel" (74 : Nat) "StabilitySumsModel" "top" "[J") ∈ UW := uw_at 722 (by decide +kernel) rfl
theorem uw_723 : (Jvm.Cond.fieldLink "StabilitySumsModel" (194 : Nat) "StabilitySumsModel" "steps" "I") ∈ UW := uw_at 723 (by decide +kernel) rfl
theorem uw_724 : (Jvm.Cond.fieldLink "StabilitySumsModel" (77 : Nat) "StabilitySumsModel" "isTank" "[Z") ∈ UW := uw_at 724 (by decide +kernel) rfl
theorem uw_725 : (Jvm.Cond.fieldLink "StabilitySumsModel" (81 : Nat) "StabilitySumsModel" "which" "[I") ∈ UW := uw_at 725 (by decide +kernel) rfl
theorem uw_726 : (Jvm.Cond.fieldLink "StabilitySumsModel" (84 : Nat) "StabilitySumsModel" "much" "[J") ∈ UW := uw_at 726 (by decide +kernel) rfl
theorem uw_727 : (Jvm.Cond.fieldLink "StabilitySumsModel" (106 : Nat) "StabilitySumsModel" "up" "J") ∈ UW := uw_at 727 (by decide +kernel) rfl
theorem uw_728 : (Jvm.Cond.fieldLink "StabilitySumsModel" (109 : Nat) "StabilitySumsModel" "down" "J") ∈ UW := uw_at 728 (by decide +kernel) rfl
theorem uw_729 : (Jvm.Cond.lays "StabilitySumsModel" "StabilitySumsModel" "thrown" "I") ∈ UW := uw_at 729 (by decide +kernel) rfl
theorem uw_731 : (Jvm.Cond.lays "StabilitySumsModel" "StabilitySumsModel" "weights" "I") ∈ UW := uw_at 731 (by decide +kernel) rfl
theorem uw_733 : (Jvm.Cond.laysFinal "StabilitySumsModel" "StabilitySumsModel" "kg" "[J") ∈ UW := uw_at 733 (by decide +kernel) rfl
theorem uw_735 : (Jvm.Cond.laysFinal "StabilitySumsModel" "StabilitySumsModel" "wx" "[J") ∈ UW := uw_at 735 (by decide +kernel) rfl
theorem uw_737 : (Jvm.Cond.laysFinal "StabilitySumsModel" "StabilitySumsModel" "wy" "[J") ∈ UW := uw_at 737 (by decide +kernel) rfl
theorem uw_739 : (Jvm.Cond.laysFinal "StabilitySumsModel" "StabilitySumsModel" "wz" "[J") ∈ UW := uw_at 739 (by decide +kernel) rfl
theorem uw_741 : (Jvm.Cond.lays "StabilitySumsModel" "StabilitySumsModel" "tanks" "I") ∈ UW := uw_at 741 (by decide +kernel) rfl
theorem uw_743 : (Jvm.Cond.laysFinal "StabilitySumsModel" "StabilitySumsModel" "most" "[J") ∈ UW := uw_at 743 (by decide +kernel) rfl
theorem uw_745 : (Jvm.Cond.laysFinal "StabilitySumsModel" "StabilitySumsModel" "surface" "[J") ∈ UW := uw_at 745 (by decide +kernel) rfl
theorem uw_747 : (Jvm.Cond.laysFinal "StabilitySumsModel" "StabilitySumsModel" "tx" "[J") ∈ UW := uw_at 747 (by decide +kernel) rfl
theorem uw_749 : (Jvm.Cond.laysFinal "StabilitySumsModel" "StabilitySumsModel" "ty" "[J") ∈ UW := uw_at 749 (by decide +kernel) rfl
theorem uw_751 : (Jvm.Cond.laysFinal "StabilitySumsModel" "StabilitySumsModel" "tz" "[J") ∈ UW := uw_at 751 (by decide +kernel) rfl
theorem uw_753 : (Jvm.Cond.laysFinal "StabilitySumsModel" "StabilitySumsModel" "full" "[J") ∈ UW := uw_at 753 (by decide +kernel) rfl
theorem uw_755 : (Jvm.Cond.laysFinal "StabilitySumsModel" "StabilitySumsModel" "nowKg" "[J") ∈ UW := uw_at 755 (by decide +kernel) rfl
theorem uw_757 : (Jvm.Cond.laysFinal "StabilitySumsModel" "StabilitySumsModel" "nowFull" "[J") ∈ UW := uw_at 757 (by decide +kernel) rfl
theorem uw_759 : (Jvm.Cond.laysFinal "StabilitySumsModel" "StabilitySumsModel" "bestFull" "[J") ∈ UW := uw_at 759 (by decide +kernel) rfl
theorem uw_761 : (Jvm.Cond.lays "StabilitySumsModel" "StabilitySumsModel" "rows" "I") ∈ UW := uw_at 761 (by decide +kernel) rfl
theorem uw_763 : (Jvm.Cond.laysFinal "StabilitySumsModel" "StabilitySumsModel" "at" "[J") ∈ UW := uw_at 763 (by decide +kernel) rfl
theorem uw_765 : (Jvm.Cond.laysFinal "StabilitySumsModel" "StabilitySumsModel" "high" "[J") ∈ UW := uw_at 765 (by decide +kernel) rfl
theorem uw_767 : (Jvm.Cond.laysFinal "StabilitySumsModel" "StabilitySumsModel" "deep" "[J") ∈ UW := uw_at 767 (by decide +kernel) rfl
theorem uw_769 : (Jvm.Cond.lays "StabilitySumsModel" "StabilitySumsModel" "left" "J") ∈ UW := uw_at 769 (by decide +kernel) rfl
theorem uw_771 : (Jvm.Cond.lays "StabilitySumsModel" "StabilitySumsModel" "right" "J") ∈ UW := uw_at 771 (by decide +kernel) rfl
theorem uw_773 : (Jvm.Cond.lays "StabilitySumsModel" "StabilitySumsModel" "limits" "I") ∈ UW := uw_at 773 (by decide +kernel) rfl
theorem uw_775 : (Jvm.Cond.laysFinal "StabilitySumsModel" "StabilitySumsModel" "of" "[I") ∈ UW := uw_at 775 (by decide +kernel) rfl
theorem uw_777 : (Jvm.Cond.laysFinal "StabilitySumsModel" "StabilitySumsModel" "cut" "[J") ∈ UW := uw_at 777 (by decide +kernel) rfl
theorem uw_779 : (Jvm.Cond.laysFinal "StabilitySumsModel" "StabilitySumsModel" "low" "[J") ∈ UW := uw_at 779 (by decide +kernel) rfl
theorem uw_781 : (Jvm.Cond.laysFinal "StabilitySumsModel" "StabilitySumsModel" "top" "[J") ∈ UW := uw_at 781 (by decide +kernel) rfl
theorem uw_783 : (Jvm.Cond.lays "StabilitySumsModel" "StabilitySumsModel" "steps" "I") ∈ UW := uw_at 783 (by decide +kernel) rfl
theorem uw_785 : (Jvm.Cond.laysFinal "StabilitySumsModel" "StabilitySumsModel" "isTank" "[Z") ∈ UW := uw_at 785 (by decide +kernel) rfl
theorem uw_787 : (Jvm.Cond.laysFinal "StabilitySumsModel" "StabilitySumsModel" "which" "[I") ∈ UW := uw_at 787 (by decide +kernel) rfl
theorem uw_789 : (Jvm.Cond.laysFinal "StabilitySumsModel" "StabilitySumsModel" "much" "[J") ∈ UW := uw_at 789 (by decide +kernel) rfl
theorem uw_791 : (Jvm.Cond.lays "StabilitySumsModel" "StabilitySumsModel" "up" "J") ∈ UW := uw_at 791 (by decide +kernel) rfl
theorem uw_793 : (Jvm.Cond.lays "StabilitySumsModel" "StabilitySumsModel" "down" "J") ∈ UW := uw_at 793 (by decide +kernel) rfl
theorem uw_796 : (Jvm.Cond.methodLink "StabilitySumsLaw" (72 : Nat) ({ cls := "StabilitySumsModel", name := "thrown", desc := "()I" } : Jvm.MethodName)) ∈ UW := uw_at 796 (by decide +kernel) rfl
theorem uw_797 : (Jvm.Cond.instanceMethod ({ cls := "StabilitySumsModel", name := "thrown", desc := "()I" } : Jvm.MethodName)) ∈ UW := uw_at 797 (by decide +kernel) rfl
theorem uw_798 : (Jvm.Cond.selects "StabilitySumsModel" ({ cls := "StabilitySumsModel", name := "thrown", desc := "()I" } : Jvm.MethodName) ({ cls := "StabilitySumsModel", name := "thrown", desc := "()I" } : Jvm.MethodName)) ∈ UW := uw_at 798 (by decide +kernel) rfl
set_option maxRecDepth 100000 in
theorem uw_799 : (Jvm.Cond.code ({ cls := "StabilitySumsModel", name := "thrown", desc := "()I" } : Jvm.MethodName) prog_11_method_2_code (1 : Nat) (Option.some Jvm.ClassFile.FieldType.int)) ∈ UW := uw_at 799 rfl rfl
theorem uw_800 : (Jvm.Cond.methodLink "StabilitySumsLaw" (96 : Nat) ({ cls := "StabilitySumsModel", name := "value", desc := "(II)J" } : Jvm.MethodName)) ∈ UW := uw_at 800 (by decide +kernel) rfl
theorem uw_801 : (Jvm.Cond.instanceMethod ({ cls := "StabilitySumsModel", name := "value", desc := "(II)J" } : Jvm.MethodName)) ∈ UW := uw_at 801 (by decide +kernel) rfl
theorem uw_802 : (Jvm.Cond.selects "StabilitySumsModel" ({ cls := "StabilitySumsModel", name := "value", desc := "(II)J" } : Jvm.MethodName) ({ cls := "StabilitySumsModel", name := "value", desc := "(II)J" } : Jvm.MethodName)) ∈ UW := uw_at 802 (by decide +kernel) rfl
set_option maxRecDepth 100000 in
theorem uw_803 : (Jvm.Cond.code ({ cls := "StabilitySumsModel", name := "value", desc := "(II)J" } : Jvm.MethodName) prog_11_method_14_code (5 : Nat) (Option.some Jvm.ClassFile.FieldType.long)) ∈ UW := uw_at 803 rfl rfl
theorem uw_804 : (Jvm.Cond.methodLink "StabilitySumsModel" (129 : Nat) ({ cls := "StabilitySumsModel", name := "present", desc := "()V" } : Jvm.MethodName)) ∈ UW := uw_at 804 (by decide +kernel) rfl
theorem uw_806 : (Jvm.Cond.instanceMethod ({ cls := "StabilitySumsModel", name := "present", desc := "()V" } : Jvm.MethodName)) ∈ UW := uw_at 806 (by decide +kernel) rfl
set_option maxRecDepth 100000 in
theorem uw_807 : (Jvm.Cond.code ({ cls := "StabilitySumsModel", name := "present", desc := "()V" } : Jvm.MethodName) prog_11_method_7_code (2 : Nat) (Option.none : Option Jvm.ClassFile.FieldType)) ∈ UW := uw_at 807 rfl rfl
theorem uw_808 : (Jvm.Cond.methodLink "StabilitySumsModel" (132 : Nat) ({ cls := "StabilitySumsModel", name := "divides", desc := "(I)Z" } : Jvm.MethodName)) ∈ UW := uw_at 808 (by decide +kernel) rfl
theorem uw_809 : (Jvm.Cond.static ({ cls := "StabilitySumsModel", name := "divides", desc := "(I)Z" } : Jvm.MethodName)) ∈ UW := uw_at 809 (by decide +kernel) rfl
set_option maxRecDepth 100000 in
theorem uw_810 : (Jvm.Cond.code ({ cls := "StabilitySumsModel", name := "divides", desc := "(I)Z" } : Jvm.MethodName) prog_11_method_11_code (1 : Nat) (Option.some Jvm.ClassFile.FieldType.boolean)) ∈ UW := uw_at 810 rfl rfl
theorem uw_811 : (Jvm.Cond.methodLink "StabilitySumsModel" (112 : Nat) ({ cls := "StabilitySumsModel", name := "sum", desc := "(I)J" } : Jvm.MethodName)) ∈ UW := uw_at 811 (by decide +kernel) rfl
theorem uw_813 : (Jvm.Cond.instanceMethod ({ cls := "StabilitySumsModel", name := "sum", desc := "(I)J" } : Jvm.MethodName)) ∈ UW := uw_at 813 (by decide +kernel) rfl
set_option maxRecDepth 100000 in
theorem uw_814 : (Jvm.Cond.code ({ cls := "StabilitySumsModel", name := "sum", desc := "(I)J" } : Jvm.MethodName) prog_11_method_8_code (5 : Nat) (Option.some Jvm.ClassFile.FieldType.long)) ∈ UW := uw_at 814 rfl rfl
theorem uw_815 : (Jvm.Cond.methodLink "StabilitySumsModel" (136 : Nat) ({ cls := "StabilitySumsModel", name := "reckon", desc := "(I)V" } : Jvm.MethodName)) ∈ UW := uw_at 815 (by decide +kernel) rfl
theorem uw_817 : (Jvm.Cond.instanceMethod ({ cls := "StabilitySumsModel", name := "reckon", desc := "(I)V" } : Jvm.MethodName)) ∈ UW := uw_at 817 (by decide +kernel) rfl
set_option maxRecDepth 100000 in
theorem uw_818 : (Jvm.Cond.code ({ cls := "StabilitySumsModel", name := "reckon", desc := "(I)V" } : Jvm.MethodName) prog_11_method_12_code (4 : Nat) (Option.none : Option Jvm.ClassFile.FieldType)) ∈ UW := uw_at 818 rfl rfl
theorem uw_819 : (Jvm.Cond.methodLink "StabilitySumsModel" (116 : Nat) ({ cls := "StabilitySumsModel", name := "free", desc := "()J" } : Jvm.MethodName)) ∈ UW := uw_at 819 (by decide +kernel) rfl
theorem uw_821 : (Jvm.Cond.instanceMethod ({ cls := "StabilitySumsModel", name := "free", desc := "()J" } : Jvm.MethodName)) ∈ UW := uw_at 821 (by decide +kernel) rfl
set_option maxRecDepth 100000 in
theorem uw_822 : (Jvm.Cond.code ({ cls := "StabilitySumsModel", name := "free", desc := "()J" } : Jvm.MethodName) prog_11_method_9_code (4 : Nat) (Option.some Jvm.ClassFile.FieldType.long)) ∈ UW := uw_at 822 rfl rfl
theorem uw_823 : (Jvm.Cond.methodLink "StabilitySumsModel" (120 : Nat) ({ cls := "StabilitySumsModel", name := "table", desc := "(JZ)V" } : Jvm.MethodName)) ∈ UW := uw_at 823 (by decide +kernel) rfl
theorem uw_825 : (Jvm.Cond.instanceMethod ({ cls := "StabilitySumsModel", name := "table", desc := "(JZ)V" } : Jvm.MethodName)) ∈ UW := uw_at 825 (by decide +kernel) rfl
set_option maxRecDepth 100000 in
theorem uw_826 : (Jvm.Cond.code ({ cls := "StabilitySumsModel", name := "table", desc := "(JZ)V" } : Jvm.MethodName) prog_11_method_10_code (11 : Nat) (Option.none : Option Jvm.ClassFile.FieldType)) ∈ UW := uw_at 826 rfl rfl
theorem uw_827 : (Jvm.Cond.constantLong "StabilitySumsModel" (124 : Nat) (2 : Int64)) ∈ UW := uw_at 827 (by decide +kernel) rfl
theorem uw_828 : (Jvm.Cond.methodLink "StabilitySumsModel" (140 : Nat) ({ cls := "StabilitySumsModel", name := "common", desc := "(JJ)J" } : Jvm.MethodName)) ∈ UW := uw_at 828 (by decide +kernel) rfl
theorem uw_829 : (Jvm.Cond.static ({ cls := "StabilitySumsModel", name := "common", desc := "(JJ)J" } : Jvm.MethodName)) ∈ UW := uw_at 829 (by decide +kernel) rfl
set_option maxRecDepth 100000 in
theorem uw_830 : (Jvm.Cond.code ({ cls := "StabilitySumsModel", name := "common", desc := "(JJ)J" } : Jvm.MethodName) prog_11_method_13_code (10 : Nat) (Option.some Jvm.ClassFile.FieldType.long)) ∈ UW := uw_at 830 rfl rfl
theorem uw_831 : (Jvm.Cond.methodLink "StabilitySumsModel" (144 : Nat) ({ cls := "StabilitySumsModel", name := "floor", desc := "(JJ)J" } : Jvm.MethodName)) ∈ UW := uw_at 831 (by decide +kernel) rfl
theorem uw_832 : (Jvm.Cond.static ({ cls := "StabilitySumsModel", name := "floor", desc := "(JJ)J" } : Jvm.MethodName)) ∈ UW := uw_at 832 (by decide +kernel) rfl
set_option maxRecDepth 100000 in
theorem uw_833 : (Jvm.Cond.code ({ cls := "StabilitySumsModel", name := "floor", desc := "(JJ)J" } : Jvm.MethodName) prog_11_method_6_code (6 : Nat) (Option.some Jvm.ClassFile.FieldType.long)) ∈ UW := uw_at 833 rfl rfl
theorem uw_834 : (Jvm.Cond.methodLink "StabilitySumsLaw" (100 : Nat) ({ cls := "StabilitySumsModel", name := "shear", desc := "(J)J" } : Jvm.MethodName)) ∈ UW := uw_at 834 (by decide +kernel) rfl
theorem uw_835 : (Jvm.Cond.instanceMethod ({ cls := "StabilitySumsModel", name := "shear", desc := "(J)J" } : Jvm.MethodName)) ∈ UW := uw_at 835 (by decide +kernel) rfl
theorem uw_836 : (Jvm.Cond.selects "StabilitySumsModel" ({ cls := "StabilitySumsModel", name := "shear", desc := "(J)J" } : Jvm.MethodName) ({ cls := "StabilitySumsModel", name := "shear", desc := "(J)J" } : Jvm.MethodName)) ∈ UW := uw_at 836 (by decide +kernel) rfl
set_option maxRecDepth 100000 in
theorem uw_837 : (Jvm.Cond.code ({ cls := "StabilitySumsModel", name := "shear", desc := "(J)J" } : Jvm.MethodName) prog_11_method_17_code (3 : Nat) (Option.some Jvm.ClassFile.FieldType.long)) ∈ UW := uw_at 837 rfl rfl
theorem uw_838 : (Jvm.Cond.methodLink "StabilitySumsModel" (147 : Nat) ({ cls := "StabilitySumsModel", name := "isPlace", desc := "(J)Z" } : Jvm.MethodName)) ∈ UW := uw_at 838 (by decide +kernel) rfl
theorem uw_839 : (Jvm.Cond.static ({ cls := "StabilitySumsModel", name := "isPlace", desc := "(J)Z" } : Jvm.MethodName)) ∈ UW := uw_at 839 (by decide +kernel) rfl
set_option maxRecDepth 100000 in
theorem uw_840 : (Jvm.Cond.code ({ cls := "StabilitySumsModel", name := "isPlace", desc := "(J)Z" } : Jvm.MethodName) prog_11_method_5_code (2 : Nat) (Option.some Jvm.ClassFile.FieldType.boolean)) ∈ UW := uw_at 840 rfl rfl
theorem uw_841 : (Jvm.Cond.constantLong "StabilitySumsModel" (91 : Nat) (-10000 : Int64)) ∈ UW := uw_at 841 (by decide +kernel) rfl
theorem uw_842 : (Jvm.Cond.methodLink "StabilitySumsModel" (93 : Nat) ({ cls := "StabilitySumsModel", name := "in", desc := "(JJJ)Z" } : Jvm.MethodName)) ∈ UW := uw_at 842 (by decide +kernel) rfl
theorem uw_843 : (Jvm.Cond.static ({ cls := "StabilitySumsModel", name := "in", desc := "(JJJ)Z" } : Jvm.MethodName)) ∈ UW := uw_at 843 (by decide +kernel) rfl
set_option maxRecDepth 100000 in
theorem uw_844 : (Jvm.Cond.code ({ cls := "StabilitySumsModel", name := "in", desc := "(JJJ)Z" } : Jvm.MethodName) prog_11_method_4_code (6 : Nat) (Option.some Jvm.ClassFile.FieldType.boolean)) ∈ UW := uw_at 844 rfl rfl
theorem uw_845 : (Jvm.Cond.methodLink "StabilitySumsModel" (151 : Nat) ({ cls := "StabilitySumsModel", name := "fails", desc := "(I)I" } : Jvm.MethodName)) ∈ UW := uw_at 845 (by decide +kernel) rfl
theorem uw_847 : (Jvm.Cond.instanceMethod ({ cls := "StabilitySumsModel", name := "fails", desc := "(I)I" } : Jvm.MethodName)) ∈ UW := uw_at 847 (by decide +kernel) rfl
set_option maxRecDepth 100000 in
theorem uw_848 : (Jvm.Cond.code ({ cls := "StabilitySumsModel", name := "fails", desc := "(I)I" } : Jvm.MethodName) prog_11_method_3_code (2 : Nat) (Option.some Jvm.ClassFile.FieldType.int)) ∈ UW := uw_at 848 rfl rfl
theorem uw_849 : (Jvm.Cond.methodLink "StabilitySumsModel" (155 : Nat) ({ cls := "StabilitySumsModel", name := "shearAt", desc := "(J)J" } : Jvm.MethodName)) ∈ UW := uw_at 849 (by decide +kernel) rfl
theorem uw_851 : (Jvm.Cond.instanceMethod ({ cls := "StabilitySumsModel", name := "shearAt", desc := "(J)J" } : Jvm.MethodName)) ∈ UW := uw_at 851 (by decide +kernel) rfl
set_option maxRecDepth 100000 in
theorem uw_852 : (Jvm.Cond.code ({ cls := "StabilitySumsModel", name := "shearAt", desc := "(J)J" } : Jvm.MethodName) prog_11_method_15_code (7 : Nat) (Option.some Jvm.ClassFile.FieldType.long)) ∈ UW := uw_at 852 rfl rfl
theorem uw_853 : (Jvm.Cond.methodLink "StabilitySumsLaw" (103 : Nat) ({ cls := "StabilitySumsModel", name := "bending", desc := "(J)J" } : Jvm.MethodName)) ∈ UW := uw_at 853 (by decide +kernel) rfl
theorem uw_854 : (Jvm.Cond.instanceMethod ({ cls := "StabilitySumsModel", name := "bending", desc := "(J)J" } : Jvm.MethodName)) ∈ UW := uw_at 854 (by decide +kernel) rfl
theorem uw_855 : (Jvm.Cond.selects "StabilitySumsModel" ({ cls := "StabilitySumsModel", name := "bending", desc := "(J)J" } : Jvm.MethodName) ({ cls := "StabilitySumsModel", name := "bending", desc := "(J)J" } : Jvm.MethodName)) ∈ UW := uw_at 855 (by decide +kernel) rfl
set_option maxRecDepth 100000 in
theorem uw_856 : (Jvm.Cond.code ({ cls := "StabilitySumsModel", name := "bending", desc := "(J)J" } : Jvm.MethodName) prog_11_method_18_code (3 : Nat) (Option.some Jvm.ClassFile.FieldType.long)) ∈ UW := uw_at 856 rfl rfl
theorem uw_857 : (Jvm.Cond.methodLink "StabilitySumsModel" (159 : Nat) ({ cls := "StabilitySumsModel", name := "bendingAt", desc := "(J)J" } : Jvm.MethodName)) ∈ UW := uw_at 857 (by decide +kernel) rfl
theorem uw_859 : (Jvm.Cond.instanceMethod ({ cls := "StabilitySumsModel", name := "bendingAt", desc := "(J)J" } : Jvm.MethodName)) ∈ UW := uw_at 859 (by decide +kernel) rfl
set_option maxRecDepth 100000 in
theorem uw_860 : (Jvm.Cond.code ({ cls := "StabilitySumsModel", name := "bendingAt", desc := "(J)J" } : Jvm.MethodName) prog_11_method_16_code (7 : Nat) (Option.some Jvm.ClassFile.FieldType.long)) ∈ UW := uw_at 860 rfl rfl
theorem uw_861 : (Jvm.Cond.methodLink "StabilitySumsLaw" (71 : Nat) ({ cls := "StabilitySumsModel", name := "weight", desc := "(JJJJ)I" } : Jvm.MethodName)) ∈ UW := uw_at 861 (by decide +kernel) rfl
theorem uw_862 : (Jvm.Cond.instanceMethod ({ cls := "StabilitySumsModel", name := "weight", desc := "(JJJJ)I" } : Jvm.MethodName)) ∈ UW := uw_at 862 (by decide +kernel) rfl
theorem uw_863 : (Jvm.Cond.selects "StabilitySumsModel" ({ cls := "StabilitySumsModel", name := "weight", desc := "(JJJJ)I" } : Jvm.MethodName) ({ cls := "StabilitySumsModel", name := "weight", desc := "(JJJJ)I" } : Jvm.MethodName)) ∈ UW := uw_at 863 (by decide +kernel) rfl
set_option maxRecDepth 100000 in
theorem uw_864 : (Jvm.Cond.code ({ cls := "StabilitySumsModel", name := "weight", desc := "(JJJJ)I" } : Jvm.MethodName) prog_11_method_19_code (9 : Nat) (Option.some Jvm.ClassFile.FieldType.int)) ∈ UW := uw_at 864 rfl rfl
theorem uw_865 : (Jvm.Cond.constantLong "StabilitySumsModel" (162 : Nat) (-100000 : Int64)) ∈ UW := uw_at 865 (by decide +kernel) rfl
theorem uw_866 : (Jvm.Cond.constantLong "StabilitySumsModel" (164 : Nat) (100000 : Int64)) ∈ UW := uw_at 866 (by decide +kernel) rfl
theorem uw_867 : (Jvm.Cond.methodLink "StabilitySumsLaw" (79 : Nat) ({ cls := "StabilitySumsModel", name := "tank", desc := "(JJJJJ)I" } : Jvm.MethodName)) ∈ UW := uw_at 867 (by decide +kernel) rfl
theorem uw_868 : (Jvm.Cond.instanceMethod ({ cls := "StabilitySumsModel", name := "tank", desc := "(JJJJJ)I" } : Jvm.MethodName)) ∈ UW := uw_at 868 (by decide +kernel) rfl
theorem uw_869 : (Jvm.Cond.selects "StabilitySumsModel" ({ cls := "StabilitySumsModel", name := "tank", desc := "(JJJJJ)I" } : Jvm.MethodName) ({ cls := "StabilitySumsModel", name := "tank", desc := "(JJJJJ)I" } : Jvm.MethodName)) ∈ UW := uw_at 869 (by decide +kernel) rfl
set_option maxRecDepth 100000 in
theorem uw_870 : (Jvm.Cond.code ({ cls := "StabilitySumsModel", name := "tank", desc := "(JJJJJ)I" } : Jvm.MethodName) prog_11_method_20_code (11 : Nat) (Option.some Jvm.ClassFile.FieldType.int)) ∈ UW := uw_at 870 rfl rfl
theorem uw_871 : (Jvm.Cond.constantLong "StabilitySumsModel" (166 : Nat) (4 : Int64)) ∈ UW := uw_at 871 (by decide +kernel) rfl
theorem uw_872 : (Jvm.Cond.constantLong "StabilitySumsModel" (168 : Nat) (40000 : Int64)) ∈ UW := uw_at 872 (by decide +kernel) rfl
theorem uw_873 : (Jvm.Cond.constantLong "StabilitySumsModel" (170 : Nat) (1000000000 : Int64)) ∈ UW := uw_at 873 (by decide +kernel) rfl
theorem uw_874 : (Jvm.Cond.methodLink "StabilitySumsLaw" (83 : Nat) ({ cls := "StabilitySumsModel", name := "filled", desc := "(IJ)I" } : Jvm.MethodName)) ∈ UW := uw_at 874 (by decide +kernel) rfl
theorem uw_875 : (Jvm.Cond.instanceMethod ({ cls := "StabilitySumsModel", name := "filled", desc := "(IJ)I" } : Jvm.MethodName)) ∈ UW := uw_at 875 (by decide +kernel) rfl
theorem uw_876 : (Jvm.Cond.selects "StabilitySumsModel" ({ cls := "StabilitySumsModel", name := "filled", desc := "(IJ)I" } : Jvm.MethodName) ({ cls := "StabilitySumsModel", name := "filled", desc := "(IJ)I" } : Jvm.MethodName)) ∈ UW := uw_at 876 (by decide +kernel) rfl
set_option maxRecDepth 100000 in
theorem uw_877 : (Jvm.Cond.code ({ cls := "StabilitySumsModel", name := "filled", desc := "(IJ)I" } : Jvm.MethodName) prog_11_method_22_code (4 : Nat) (Option.some Jvm.ClassFile.FieldType.int)) ∈ UW := uw_at 877 rfl rfl
theorem uw_878 : (Jvm.Cond.methodLink "StabilitySumsModel" (172 : Nat) ({ cls := "StabilitySumsModel", name := "isTankThere", desc := "(I)Z" } : Jvm.MethodName)) ∈ UW := uw_at 878 (by decide +kernel) rfl
theorem uw_880 : (Jvm.Cond.instanceMethod ({ cls := "StabilitySumsModel", name := "isTankThere", desc := "(I)Z" } : Jvm.MethodName)) ∈ UW := uw_at 880 (by decide +kernel) rfl
set_option maxRecDepth 100000 in
theorem uw_881 : (Jvm.Cond.code ({ cls := "StabilitySumsModel", name := "isTankThere", desc := "(I)Z" } : Jvm.MethodName) prog_11_method_21_code (2 : Nat) (Option.some Jvm.ClassFile.FieldType.boolean)) ∈ UW := uw_at 881 rfl rfl
theorem uw_882 : (Jvm.Cond.methodLink "StabilitySumsLaw" (87 : Nat) ({ cls := "StabilitySumsModel", name := "hydro", desc := "(JJJ)I" } : Jvm.MethodName)) ∈ UW := uw_at 882 (by decide +kernel) rfl
theorem uw_883 : (Jvm.Cond.instanceMethod ({ cls := "StabilitySumsModel", name := "hydro", desc := "(JJJ)I" } : Jvm.MethodName)) ∈ UW := uw_at 883 (by decide +kernel) rfl
theorem uw_884 : (Jvm.Cond.selects "StabilitySumsModel" ({ cls := "StabilitySumsModel", name := "hydro", desc := "(JJJ)I" } : Jvm.MethodName) ({ cls := "StabilitySumsModel", name := "hydro", desc := "(JJJ)I" } : Jvm.MethodName)) ∈ UW := uw_at 884 (by decide +kernel) rfl
set_option maxRecDepth 100000 in
theorem uw_885 : (Jvm.Cond.code ({ cls := "StabilitySumsModel", name := "hydro", desc := "(JJJ)I" } : Jvm.MethodName) prog_11_method_23_code (7 : Nat) (Option.some Jvm.ClassFile.FieldType.int)) ∈ UW := uw_at 885 rfl rfl
theorem uw_886 : (Jvm.Cond.constantLong "StabilitySumsModel" (175 : Nat) (5000000 : Int64)) ∈ UW := uw_at 886 (by decide +kernel) rfl
theorem uw_887 : (Jvm.Cond.methodLink "StabilitySumsLaw" (92 : Nat) ({ cls := "StabilitySumsModel", name := "hull", desc := "(JJ)Z" } : Jvm.MethodName)) ∈ UW := uw_at 887 (by decide +kernel) rfl
theorem uw_888 : (Jvm.Cond.instanceMethod ({ cls := "StabilitySumsModel", name := "hull", desc := "(JJ)Z" } : Jvm.MethodName)) ∈ UW := uw_at 888 (by decide +kernel) rfl
theorem uw_889 : (Jvm.Cond.selects "StabilitySumsModel" ({ cls := "StabilitySumsModel", name := "hull", desc := "(JJ)Z" } : Jvm.MethodName) ({ cls := "StabilitySumsModel", name := "hull", desc := "(JJ)Z" } : Jvm.MethodName)) ∈ UW := uw_at 889 (by decide +kernel) rfl
set_option maxRecDepth 100000 in
theorem uw_890 : (Jvm.Cond.code ({ cls := "StabilitySumsModel", name := "hull", desc := "(JJ)Z" } : Jvm.MethodName) prog_11_method_24_code (5 : Nat) (Option.some Jvm.ClassFile.FieldType.boolean)) ∈ UW := uw_at 890 rfl rfl
theorem uw_891 : (Jvm.Cond.methodLink "StabilitySumsLaw" (107 : Nat) ({ cls := "StabilitySumsModel", name := "limit", desc := "(IJJJ)I" } : Jvm.MethodName)) ∈ UW := uw_at 891 (by decide +kernel) rfl
theorem uw_892 : (Jvm.Cond.instanceMethod ({ cls := "StabilitySumsModel", name := "limit", desc := "(IJJJ)I" } : Jvm.MethodName)) ∈ UW := uw_at 892 (by decide +kernel) rfl
theorem uw_893 : (Jvm.Cond.selects "StabilitySumsModel" ({ cls := "StabilitySumsModel", name := "limit", desc := "(IJJJ)I" } : Jvm.MethodName) ({ cls := "StabilitySumsModel", name := "limit", desc := "(IJJJ)I" } : Jvm.MethodName)) ∈ UW := uw_at 893 (by decide +kernel) rfl
set_option maxRecDepth 100000 in
theorem uw_894 : (Jvm.Cond.code ({ cls := "StabilitySumsModel", name := "limit", desc := "(IJJJ)I" } : Jvm.MethodName) prog_11_method_25_code (10 : Nat) (Option.some Jvm.ClassFile.FieldType.int)) ∈ UW := uw_at 894 rfl rfl
theorem uw_895 : (Jvm.Cond.constantLong "StabilitySumsModel" (177 : Nat) (10000000000000 : Int64)) ∈ UW := uw_at 895 (by decide +kernel) rfl
theorem uw_896 : (Jvm.Cond.methodLink "StabilitySumsLaw" (111 : Nat) ({ cls := "StabilitySumsModel", name := "check", desc := "()I" } : Jvm.MethodName)) ∈ UW := uw_at 896 (by decide +kernel) rfl
theorem uw_897 : (Jvm.Cond.instanceMethod ({ cls := "StabilitySumsModel", name := "check", desc := "()I" } : Jvm.MethodName)) ∈ UW := uw_at 897 (by decide +kernel) rfl
theorem uw_898 : (Jvm.Cond.selects "StabilitySumsModel" ({ cls := "StabilitySumsModel", name := "check", desc := "()I" } : Jvm.MethodName) ({ cls := "StabilitySumsModel", name := "check", desc := "()I" } : Jvm.MethodName)) ∈ UW := uw_at 898 (by decide +kernel) rfl
set_option maxRecDepth 100000 in
theorem uw_899 : (Jvm.Cond.code ({ cls := "StabilitySumsModel", name := "check", desc := "()I" } : Jvm.MethodName) prog_11_method_28_code (1 : Nat) (Option.some Jvm.ClassFile.FieldType.int)) ∈ UW := uw_at 899 rfl rfl
theorem uw_900 : (Jvm.Cond.methodLink "StabilitySumsModel" (185 : Nat) ({ cls := "StabilitySumsModel", name := "broken0", desc := "()I" } : Jvm.MethodName)) ∈ UW := uw_at 900 (by decide +kernel) rfl
theorem uw_902 : (Jvm.Cond.instanceMethod ({ cls := "StabilitySumsModel", name := "broken0", desc := "()I" } : Jvm.MethodName)) ∈ UW := uw_at 902 (by decide +kernel) rfl
set_option maxRecDepth 100000 in
theorem uw_903 : (Jvm.Cond.code ({ cls := "StabilitySumsModel", name := "broken0", desc := "()I" } : Jvm.MethodName) prog_11_method_27_code (2 : Nat) (Option.some Jvm.ClassFile.FieldType.int)) ∈ UW := uw_at 903 rfl rfl
theorem uw_904 : (Jvm.Cond.methodLink "StabilitySumsModel" (182 : Nat) ({ cls := "StabilitySumsModel", name := "isBroken", desc := "(I)Z" } : Jvm.MethodName)) ∈ UW := uw_at 904 (by decide +kernel) rfl
theorem uw_906 : (Jvm.Cond.instanceMethod ({ cls := "StabilitySumsModel", name := "isBroken", desc := "(I)Z" } : Jvm.MethodName)) ∈ UW := uw_at 906 (by decide +kernel) rfl
set_option maxRecDepth 100000 in
theorem uw_907 : (Jvm.Cond.code ({ cls := "StabilitySumsModel", name := "isBroken", desc := "(I)Z" } : Jvm.MethodName) prog_11_method_26_code (6 : Nat) (Option.some Jvm.ClassFile.FieldType.boolean)) ∈ UW := uw_at 907 rfl rfl
theorem uw_908 : (Jvm.Cond.methodLink "StabilitySumsLaw" (116 : Nat) ({ cls := "StabilitySumsModel", name := "ballast", desc := "()J" } : Jvm.MethodName)) ∈ UW := uw_at 908 (by decide +kernel) rfl
theorem uw_909 : (Jvm.Cond.instanceMethod ({ cls := "StabilitySumsModel", name := "ballast", desc := "()J" } : Jvm.MethodName)) ∈ UW := uw_at 909 (by decide +kernel) rfl
theorem uw_910 : (Jvm.Cond.selects "StabilitySumsModel" ({ cls := "StabilitySumsModel", name := "ballast", desc := "()J" } : Jvm.MethodName) ({ cls := "StabilitySumsModel", name := "ballast", desc := "()J" } : Jvm.MethodName)) ∈ UW := uw_at 910 (by decide +kernel) rfl
set_option maxRecDepth 100000 in
theorem uw_911 : (Jvm.Cond.code ({ cls := "StabilitySumsModel", name := "ballast", desc := "()J" } : Jvm.MethodName) prog_11_method_30_code (1 : Nat) (Option.some Jvm.ClassFile.FieldType.long)) ∈ UW := uw_at 911 rfl rfl
theorem uw_912 : (Jvm.Cond.methodLink "StabilitySumsModel" (191 : Nat) ({ cls := "StabilitySumsModel", name := "pump", desc := "()J" } : Jvm.MethodName)) ∈ UW := uw_at 912 (by decide +kernel) rfl
theorem uw_914 : (Jvm.Cond.instanceMethod ({ cls := "StabilitySumsModel", name := "pump", desc := "()J" } : Jvm.MethodName)) ∈ UW := uw_at 914 (by decide +kernel) rfl
set_option maxRecDepth 100000 in
theorem uw_915 : (Jvm.Cond.code ({ cls := "StabilitySumsModel", name := "pump", desc := "()J" } : Jvm.MethodName) prog_11_method_29_code (12 : Nat) (Option.some Jvm.ClassFile.FieldType.long)) ∈ UW := uw_at 915 rfl rfl
theorem uw_916 : (Jvm.Cond.constantLong "StabilitySumsModel" (189 : Nat) (-1 : Int64)) ∈ UW := uw_at 916 (by decide +kernel) rfl
theorem uw_917 : (Jvm.Cond.methodLink "StabilitySumsLaw" (120 : Nat) ({ cls := "StabilitySumsModel", name := "fill", desc := "(I)J" } : Jvm.MethodName)) ∈ UW := uw_at 917 (by decide +kernel) rfl
theorem uw_918 : (Jvm.Cond.instanceMethod ({ cls := "StabilitySumsModel", name := "fill", desc := "(I)J" } : Jvm.MethodName)) ∈ UW := uw_at 918 (by decide +kernel) rfl
theorem uw_919 : (Jvm.Cond.selects "StabilitySumsModel" ({ cls := "StabilitySumsModel", name := "fill", desc := "(I)J" } : Jvm.MethodName) ({ cls := "StabilitySumsModel", name := "fill", desc := "(I)J" } : Jvm.MethodName)) ∈ UW := uw_at 919 (by decide +kernel) rfl
set_option maxRecDepth 100000 in
theorem uw_920 : (Jvm.Cond.code ({ cls := "StabilitySumsModel", name := "fill", desc := "(I)J" } : Jvm.MethodName) prog_11_method_31_code (2 : Nat) (Option.some Jvm.ClassFile.FieldType.long)) ∈ UW := uw_at 920 rfl rfl
theorem uw_921 : (Jvm.Cond.methodLink "StabilitySumsLaw" (124 : Nat) ({ cls := "StabilitySumsModel", name := "plan", desc := "(ZIJ)I" } : Jvm.MethodName)) ∈ UW := uw_at 921 (by decide +kernel) rfl
theorem uw_922 : (Jvm.Cond.instanceMethod ({ cls := "StabilitySumsModel", name := "plan", desc := "(ZIJ)I" } : Jvm.MethodName)) ∈ UW := uw_at 922 (by decide +kernel) rfl
theorem uw_923 : (Jvm.Cond.selects "StabilitySumsModel" ({ cls := "StabilitySumsModel", name := "plan", desc := "(ZIJ)I" } : Jvm.MethodName) ({ cls := "StabilitySumsModel", name := "plan", desc := "(ZIJ)I" } : Jvm.MethodName)) ∈ UW := uw_at 923 (by decide +kernel) rfl
set_option maxRecDepth 100000 in
theorem uw_924 : (Jvm.Cond.code ({ cls := "StabilitySumsModel", name := "plan", desc := "(ZIJ)I" } : Jvm.MethodName) prog_11_method_32_code (5 : Nat) (Option.some Jvm.ClassFile.FieldType.int)) ∈ UW := uw_at 924 rfl rfl
theorem uw_925 : (Jvm.Cond.methodLink "StabilitySumsLaw" (127 : Nat) ({ cls := "StabilitySumsModel", name := "step", desc := "(I)I" } : Jvm.MethodName)) ∈ UW := uw_at 925 (by decide +kernel) rfl
theorem uw_926 : (Jvm.Cond.instanceMethod ({ cls := "StabilitySumsModel", name := "step", desc := "(I)I" } : Jvm.MethodName)) ∈ UW := uw_at 926 (by decide +kernel) rfl
theorem uw_927 : (Jvm.Cond.selects "StabilitySumsModel" ({ cls := "StabilitySumsModel", name := "step", desc := "(I)I" } : Jvm.MethodName) ({ cls := "StabilitySumsModel", name := "step", desc := "(I)I" } : Jvm.MethodName)) ∈ UW := uw_at 927 (by decide +kernel) rfl
set_option maxRecDepth 100000 in
theorem uw_928 : (Jvm.Cond.code ({ cls := "StabilitySumsModel", name := "step", desc := "(I)I" } : Jvm.MethodName) prog_11_method_34_code (2 : Nat) (Option.some Jvm.ClassFile.FieldType.int)) ∈ UW := uw_at 928 rfl rfl
theorem uw_929 : (Jvm.Cond.methodLink "StabilitySumsModel" (197 : Nat) ({ cls := "StabilitySumsModel", name := "brokenBehind", desc := "(I)I" } : Jvm.MethodName)) ∈ UW := uw_at 929 (by decide +kernel) rfl
theorem uw_931 : (Jvm.Cond.instanceMethod ({ cls := "StabilitySumsModel", name := "brokenBehind", desc := "(I)I" } : Jvm.MethodName)) ∈ UW := uw_at 931 (by decide +kernel) rfl
set_option maxRecDepth 100000 in
theorem uw_932 : (Jvm.Cond.code ({ cls := "StabilitySumsModel", name := "brokenBehind", desc := "(I)I" } : Jvm.MethodName) prog_11_method_33_code (3 : Nat) (Option.some Jvm.ClassFile.FieldType.int)) ∈ UW := uw_at 932 rfl rfl
theorem uw_933 : (Jvm.Cond.methodLink "StabilitySumsLaw" (131 : Nat) ({ cls := "StabilitySumsModel", name := "broken", desc := "()I" } : Jvm.MethodName)) ∈ UW := uw_at 933 (by decide +kernel) rfl
theorem uw_934 : (Jvm.Cond.instanceMethod ({ cls := "StabilitySumsModel", name := "broken", desc := "()I" } : Jvm.MethodName)) ∈ UW := uw_at 934 (by decide +kernel) rfl
theorem uw_935 : (Jvm.Cond.selects "StabilitySumsModel" ({ cls := "StabilitySumsModel", name := "broken", desc := "()I" } : Jvm.MethodName) ({ cls := "StabilitySumsModel", name := "broken", desc := "()I" } : Jvm.MethodName)) ∈ UW := uw_at 935 (by decide +kernel) rfl
set_option maxRecDepth 100000 in
theorem uw_936 : (Jvm.Cond.code ({ cls := "StabilitySumsModel", name := "broken", desc := "()I" } : Jvm.MethodName) prog_11_method_35_code (2 : Nat) (Option.some Jvm.ClassFile.FieldType.int)) ∈ UW := uw_at 936 rfl rfl
theorem uw_937 : (Jvm.Cond.methodLink "StabilitySumsLaw" (135 : Nat) ({ cls := "StabilitySumsModel", name := "count", desc := "(I)I" } : Jvm.MethodName)) ∈ UW := uw_at 937 (by decide +kernel) rfl
theorem uw_938 : (Jvm.Cond.instanceMethod ({ cls := "StabilitySumsModel", name := "count", desc := "(I)I" } : Jvm.MethodName)) ∈ UW := uw_at 938 (by decide +kernel) rfl
theorem uw_939 : (Jvm.Cond.selects "StabilitySumsModel" ({ cls := "StabilitySumsModel", name := "count", desc := "(I)I" } : Jvm.MethodName) ({ cls := "StabilitySumsModel", name := "count", desc := "(I)I" } : Jvm.MethodName)) ∈ UW := uw_at 939 (by decide +kernel) rfl
set_option maxRecDepth 100000 in
theorem uw_940 : (Jvm.Cond.code ({ cls := "StabilitySumsModel", name := "count", desc := "(I)I" } : Jvm.MethodName) prog_11_method_36_code (4 : Nat) (Option.some Jvm.ClassFile.FieldType.int)) ∈ UW := uw_at 940 rfl rfl
theorem uw_941 : (Jvm.Cond.constantLong "StabilitySumsLaw" (64 : Nat) (4294967295 : Int64)) ∈ UW := uw_at 941 (by decide +kernel) rfl

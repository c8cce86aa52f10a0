section
-- ===== PART A: goes FIRST, ahead of the names: the tables' words, and 'selects' of the private methods out of them =====
/-- a private method of a class that the tables say can be made, by its rows of tables_1 -/
def lw_okq (q : MethodName × Nat) : Prop := (q.1.cls ≠ "java/lang/invoke/MethodHandle" ∧ q.1.cls ≠ "java/lang/invoke/VarHandle") ∧ Cond.instantiable q.1.cls q.2 ∈ tables_1 ∧ Cond.privateMethod q.1 ∈ tables_1 ∧ Cond.instanceMethod q.1 ∈ tables_1
theorem lw_p0 : lw_okq (⟨"StabilitySums", "gather", "()V"⟩, 10) := ⟨⟨by decide +kernel, by decide +kernel⟩, List.mem_of_getElem? (i := 20) (by decide +kernel), List.mem_of_getElem? (i := 277) (by decide +kernel), List.mem_of_getElem? (i := 278) (by decide +kernel)⟩
theorem lw_p1 : lw_okq (⟨"StabilitySums", "tryMore", "(IJ)V"⟩, 10) := ⟨⟨by decide +kernel, by decide +kernel⟩, List.mem_of_getElem? (i := 20) (by decide +kernel), List.mem_of_getElem? (i := 292) (by decide +kernel), List.mem_of_getElem? (i := 293) (by decide +kernel)⟩
theorem lw_p2 : lw_okq (⟨"StabilitySums", "tryFilling", "(IJ)V"⟩, 10) := ⟨⟨by decide +kernel, by decide +kernel⟩, List.mem_of_getElem? (i := 20) (by decide +kernel), List.mem_of_getElem? (i := 304) (by decide +kernel), List.mem_of_getElem? (i := 305) (by decide +kernel)⟩
theorem lw_p3 : lw_okq (⟨"StabilitySums", "leastBroken", "()I"⟩, 10) := ⟨⟨by decide +kernel, by decide +kernel⟩, List.mem_of_getElem? (i := 20) (by decide +kernel), List.mem_of_getElem? (i := 316) (by decide +kernel), List.mem_of_getElem? (i := 317) (by decide +kernel)⟩
theorem lw_p4 : lw_okq (⟨"StabilitySums", "breaks", "(I)Z"⟩, 10) := ⟨⟨by decide +kernel, by decide +kernel⟩, List.mem_of_getElem? (i := 20) (by decide +kernel), List.mem_of_getElem? (i := 320) (by decide +kernel), List.mem_of_getElem? (i := 321) (by decide +kernel)⟩
theorem lw_p5 : lw_okq (⟨"StabilitySums", "shearAt", "(I)J"⟩, 10) := ⟨⟨by decide +kernel, by decide +kernel⟩, List.mem_of_getElem? (i := 20) (by decide +kernel), List.mem_of_getElem? (i := 324) (by decide +kernel), List.mem_of_getElem? (i := 325) (by decide +kernel)⟩
theorem lw_p6 : lw_okq (⟨"StabilitySums", "bendingAt", "(I)J"⟩, 10) := ⟨⟨by decide +kernel, by decide +kernel⟩, List.mem_of_getElem? (i := 20) (by decide +kernel), List.mem_of_getElem? (i := 334) (by decide +kernel), List.mem_of_getElem? (i := 335) (by decide +kernel)⟩
theorem lw_p7 : lw_okq (⟨"StabilitySums", "isWithoutAnswer", "(I)Z"⟩, 10) := ⟨⟨by decide +kernel, by decide +kernel⟩, List.mem_of_getElem? (i := 20) (by decide +kernel), List.mem_of_getElem? (i := 343) (by decide +kernel), List.mem_of_getElem? (i := 344) (by decide +kernel)⟩
theorem lw_p8 : lw_okq (⟨"StabilitySums", "work", "(I)V"⟩, 10) := ⟨⟨by decide +kernel, by decide +kernel⟩, List.mem_of_getElem? (i := 20) (by decide +kernel), List.mem_of_getElem? (i := 347) (by decide +kernel), List.mem_of_getElem? (i := 348) (by decide +kernel)⟩
theorem lw_p9 : lw_okq (⟨"StabilitySums", "findPumping", "()J"⟩, 10) := ⟨⟨by decide +kernel, by decide +kernel⟩, List.mem_of_getElem? (i := 20) (by decide +kernel), List.mem_of_getElem? (i := 373) (by decide +kernel), List.mem_of_getElem? (i := 374) (by decide +kernel)⟩
theorem lw_p10 : lw_okq (⟨"StabilitySums", "trySetting", "(I)V"⟩, 10) := ⟨⟨by decide +kernel, by decide +kernel⟩, List.mem_of_getElem? (i := 20) (by decide +kernel), List.mem_of_getElem? (i := 378) (by decide +kernel), List.mem_of_getElem? (i := 379) (by decide +kernel)⟩
theorem lw_p11 : lw_okq (⟨"StabilitySums", "tryStep", "(I)V"⟩, 10) := ⟨⟨by decide +kernel, by decide +kernel⟩, List.mem_of_getElem? (i := 20) (by decide +kernel), List.mem_of_getElem? (i := 398) (by decide +kernel), List.mem_of_getElem? (i := 399) (by decide +kernel)⟩
theorem lw_p12 : lw_okq (⟨"java/lang/Throwable", "fillInStackTrace", "(I)Ljava/lang/Throwable;"⟩, 6) := ⟨⟨by decide +kernel, by decide +kernel⟩, List.mem_of_getElem? (i := 463) (by decide +kernel), List.mem_of_getElem? (i := 461) (by decide +kernel), List.mem_of_getElem? (i := 462) (by decide +kernel)⟩
theorem lw_p13 : lw_okq (⟨"StabilitySumsModel", "present", "()V"⟩, 33) := ⟨⟨by decide +kernel, by decide +kernel⟩, List.mem_of_getElem? (i := 664) (by decide +kernel), List.mem_of_getElem? (i := 779) (by decide +kernel), List.mem_of_getElem? (i := 780) (by decide +kernel)⟩
theorem lw_p14 : lw_okq (⟨"StabilitySumsModel", "sum", "(I)J"⟩, 33) := ⟨⟨by decide +kernel, by decide +kernel⟩, List.mem_of_getElem? (i := 664) (by decide +kernel), List.mem_of_getElem? (i := 786) (by decide +kernel), List.mem_of_getElem? (i := 787) (by decide +kernel)⟩
theorem lw_p15 : lw_okq (⟨"StabilitySumsModel", "reckon", "(I)V"⟩, 33) := ⟨⟨by decide +kernel, by decide +kernel⟩, List.mem_of_getElem? (i := 664) (by decide +kernel), List.mem_of_getElem? (i := 790) (by decide +kernel), List.mem_of_getElem? (i := 791) (by decide +kernel)⟩
def lw_privs_1 : List (MethodName × Nat) := [(⟨"StabilitySums", "gather", "()V"⟩, 10), (⟨"StabilitySums", "tryMore", "(IJ)V"⟩, 10), (⟨"StabilitySums", "tryFilling", "(IJ)V"⟩, 10), (⟨"StabilitySums", "leastBroken", "()I"⟩, 10), (⟨"StabilitySums", "breaks", "(I)Z"⟩, 10), (⟨"StabilitySums", "shearAt", "(I)J"⟩, 10), (⟨"StabilitySums", "bendingAt", "(I)J"⟩, 10), (⟨"StabilitySums", "isWithoutAnswer", "(I)Z"⟩, 10), (⟨"StabilitySums", "work", "(I)V"⟩, 10), (⟨"StabilitySums", "findPumping", "()J"⟩, 10), (⟨"StabilitySums", "trySetting", "(I)V"⟩, 10), (⟨"StabilitySums", "tryStep", "(I)V"⟩, 10), (⟨"java/lang/Throwable", "fillInStackTrace", "(I)Ljava/lang/Throwable;"⟩, 6), (⟨"StabilitySumsModel", "present", "()V"⟩, 33), (⟨"StabilitySumsModel", "sum", "(I)J"⟩, 33), (⟨"StabilitySumsModel", "reckon", "(I)V"⟩, 33)]
theorem lw_r1 : ∀ q ∈ lw_privs_1, lw_okq q := List.forall_mem_cons.mpr ⟨lw_p0, List.forall_mem_cons.mpr ⟨lw_p1, List.forall_mem_cons.mpr ⟨lw_p2, List.forall_mem_cons.mpr ⟨lw_p3, List.forall_mem_cons.mpr ⟨lw_p4, List.forall_mem_cons.mpr ⟨lw_p5, List.forall_mem_cons.mpr ⟨lw_p6, List.forall_mem_cons.mpr ⟨lw_p7, List.forall_mem_cons.mpr ⟨lw_p8, List.forall_mem_cons.mpr ⟨lw_p9, List.forall_mem_cons.mpr ⟨lw_p10, List.forall_mem_cons.mpr ⟨lw_p11, List.forall_mem_cons.mpr ⟨lw_p12, List.forall_mem_cons.mpr ⟨lw_p13, List.forall_mem_cons.mpr ⟨lw_p14, List.forall_mem_cons.mpr ⟨lw_p15, fun _ h => absurd h List.not_mem_nil⟩⟩⟩⟩⟩⟩⟩⟩⟩⟩⟩⟩⟩⟩⟩⟩
theorem lw_p16 : lw_okq (⟨"StabilitySumsModel", "free", "()J"⟩, 33) := ⟨⟨by decide +kernel, by decide +kernel⟩, List.mem_of_getElem? (i := 664) (by decide +kernel), List.mem_of_getElem? (i := 794) (by decide +kernel), List.mem_of_getElem? (i := 795) (by decide +kernel)⟩
theorem lw_p17 : lw_okq (⟨"StabilitySumsModel", "table", "(JZ)V"⟩, 33) := ⟨⟨by decide +kernel, by decide +kernel⟩, List.mem_of_getElem? (i := 664) (by decide +kernel), List.mem_of_getElem? (i := 798) (by decide +kernel), List.mem_of_getElem? (i := 799) (by decide +kernel)⟩
theorem lw_p18 : lw_okq (⟨"StabilitySumsModel", "fails", "(I)I"⟩, 33) := ⟨⟨by decide +kernel, by decide +kernel⟩, List.mem_of_getElem? (i := 664) (by decide +kernel), List.mem_of_getElem? (i := 820) (by decide +kernel), List.mem_of_getElem? (i := 821) (by decide +kernel)⟩
theorem lw_p19 : lw_okq (⟨"StabilitySumsModel", "shearAt", "(J)J"⟩, 33) := ⟨⟨by decide +kernel, by decide +kernel⟩, List.mem_of_getElem? (i := 664) (by decide +kernel), List.mem_of_getElem? (i := 824) (by decide +kernel), List.mem_of_getElem? (i := 825) (by decide +kernel)⟩
theorem lw_p20 : lw_okq (⟨"StabilitySumsModel", "bendingAt", "(J)J"⟩, 33) := ⟨⟨by decide +kernel, by decide +kernel⟩, List.mem_of_getElem? (i := 664) (by decide +kernel), List.mem_of_getElem? (i := 832) (by decide +kernel), List.mem_of_getElem? (i := 833) (by decide +kernel)⟩
theorem lw_p21 : lw_okq (⟨"StabilitySumsModel", "isTankThere", "(I)Z"⟩, 33) := ⟨⟨by decide +kernel, by decide +kernel⟩, List.mem_of_getElem? (i := 664) (by decide +kernel), List.mem_of_getElem? (i := 853) (by decide +kernel), List.mem_of_getElem? (i := 854) (by decide +kernel)⟩
theorem lw_p22 : lw_okq (⟨"StabilitySumsModel", "broken0", "()I"⟩, 33) := ⟨⟨by decide +kernel, by decide +kernel⟩, List.mem_of_getElem? (i := 664) (by decide +kernel), List.mem_of_getElem? (i := 875) (by decide +kernel), List.mem_of_getElem? (i := 876) (by decide +kernel)⟩
theorem lw_p23 : lw_okq (⟨"StabilitySumsModel", "isBroken", "(I)Z"⟩, 33) := ⟨⟨by decide +kernel, by decide +kernel⟩, List.mem_of_getElem? (i := 664) (by decide +kernel), List.mem_of_getElem? (i := 879) (by decide +kernel), List.mem_of_getElem? (i := 880) (by decide +kernel)⟩
theorem lw_p24 : lw_okq (⟨"StabilitySumsModel", "pump", "()J"⟩, 33) := ⟨⟨by decide +kernel, by decide +kernel⟩, List.mem_of_getElem? (i := 664) (by decide +kernel), List.mem_of_getElem? (i := 887) (by decide +kernel), List.mem_of_getElem? (i := 888) (by decide +kernel)⟩
theorem lw_p25 : lw_okq (⟨"StabilitySumsModel", "brokenBehind", "(I)I"⟩, 33) := ⟨⟨by decide +kernel, by decide +kernel⟩, List.mem_of_getElem? (i := 664) (by decide +kernel), List.mem_of_getElem? (i := 904) (by decide +kernel), List.mem_of_getElem? (i := 905) (by decide +kernel)⟩
def lw_privs_2 : List (MethodName × Nat) := [(⟨"StabilitySumsModel", "free", "()J"⟩, 33), (⟨"StabilitySumsModel", "table", "(JZ)V"⟩, 33), (⟨"StabilitySumsModel", "fails", "(I)I"⟩, 33), (⟨"StabilitySumsModel", "shearAt", "(J)J"⟩, 33), (⟨"StabilitySumsModel", "bendingAt", "(J)J"⟩, 33), (⟨"StabilitySumsModel", "isTankThere", "(I)Z"⟩, 33), (⟨"StabilitySumsModel", "broken0", "()I"⟩, 33), (⟨"StabilitySumsModel", "isBroken", "(I)Z"⟩, 33), (⟨"StabilitySumsModel", "pump", "()J"⟩, 33), (⟨"StabilitySumsModel", "brokenBehind", "(I)I"⟩, 33)]
theorem lw_r2 : ∀ q ∈ lw_privs_2, lw_okq q := List.forall_mem_cons.mpr ⟨lw_p16, List.forall_mem_cons.mpr ⟨lw_p17, List.forall_mem_cons.mpr ⟨lw_p18, List.forall_mem_cons.mpr ⟨lw_p19, List.forall_mem_cons.mpr ⟨lw_p20, List.forall_mem_cons.mpr ⟨lw_p21, List.forall_mem_cons.mpr ⟨lw_p22, List.forall_mem_cons.mpr ⟨lw_p23, List.forall_mem_cons.mpr ⟨lw_p24, List.forall_mem_cons.mpr ⟨lw_p25, fun _ h => absurd h List.not_mem_nil⟩⟩⟩⟩⟩⟩⟩⟩⟩⟩
def lw_privs : List (MethodName × Nat) := lw_privs_1 ++ (lw_privs_2)
def lw_tbl : List Cond := k2_sels lw_privs ++ tables_1
theorem lw_privs_ok : ∀ q ∈ lw_privs, lw_okq q := by
  show ∀ q ∈ lw_privs_1 ++ (lw_privs_2), lw_okq q
  exact List.forall_mem_append.mpr ⟨lw_r1, lw_r2⟩
def UW : List Cond := lw_tbl.filter goodWord
theorem uw_at (k : Nat) {w : Cond} (h : lw_tbl[k]? = some w) (g : goodWord w = true) : w ∈ UW := List.mem_filter.mpr ⟨List.mem_of_getElem? h, g⟩
theorem uw_good : ∀ w ∈ UW, (w.onTables && w.keeps) = true ∨ ∃ ty, w = .arrayClass ty := fun w h => good_of_word (List.mem_filter.mp h).2
theorem uw_tbl : ∀ w ∈ UW, w ∈ lw_tbl := fun w h => (List.mem_filter.mp h).1
theorem uw_0 : Cond.selects "StabilitySums" ⟨"StabilitySums", "gather", "()V"⟩ ⟨"StabilitySums", "gather", "()V"⟩ ∈ UW := uw_at 0 (by decide +kernel) rfl
theorem uw_1 : Cond.selects "StabilitySums" ⟨"StabilitySums", "tryMore", "(IJ)V"⟩ ⟨"StabilitySums", "tryMore", "(IJ)V"⟩ ∈ UW := uw_at 1 (by decide +kernel) rfl
theorem uw_2 : Cond.selects "StabilitySums" ⟨"StabilitySums", "tryFilling", "(IJ)V"⟩ ⟨"StabilitySums", "tryFilling", "(IJ)V"⟩ ∈ UW := uw_at 2 (by decide +kernel) rfl
theorem uw_3 : Cond.selects "StabilitySums" ⟨"StabilitySums", "leastBroken", "()I"⟩ ⟨"StabilitySums", "leastBroken", "()I"⟩ ∈ UW := uw_at 3 (by decide +kernel) rfl
theorem uw_4 : Cond.selects "StabilitySums" ⟨"StabilitySums", "breaks", "(I)Z"⟩ ⟨"StabilitySums", "breaks", "(I)Z"⟩ ∈ UW := uw_at 4 (by decide +kernel) rfl
theorem uw_5 : Cond.selects "StabilitySums" ⟨"StabilitySums", "shearAt", "(I)J"⟩ ⟨"StabilitySums", "shearAt", "(I)J"⟩ ∈ UW := uw_at 5 (by decide +kernel) rfl
theorem uw_6 : Cond.selects "StabilitySums" ⟨"StabilitySums", "bendingAt", "(I)J"⟩ ⟨"StabilitySums", "bendingAt", "(I)J"⟩ ∈ UW := uw_at 6 (by decide +kernel) rfl
theorem uw_7 : Cond.selects "StabilitySums" ⟨"StabilitySums", "isWithoutAnswer", "(I)Z"⟩ ⟨"StabilitySums", "isWithoutAnswer", "(I)Z"⟩ ∈ UW := uw_at 7 (by decide +kernel) rfl
theorem uw_8 : Cond.selects "StabilitySums" ⟨"StabilitySums", "work", "(I)V"⟩ ⟨"StabilitySums", "work", "(I)V"⟩ ∈ UW := uw_at 8 (by decide +kernel) rfl
theorem uw_9 : Cond.selects "StabilitySums" ⟨"StabilitySums", "findPumping", "()J"⟩ ⟨"StabilitySums", "findPumping", "()J"⟩ ∈ UW := uw_at 9 (by decide +kernel) rfl
theorem uw_10 : Cond.selects "StabilitySums" ⟨"StabilitySums", "trySetting", "(I)V"⟩ ⟨"StabilitySums", "trySetting", "(I)V"⟩ ∈ UW := uw_at 10 (by decide +kernel) rfl
theorem uw_11 : Cond.selects "StabilitySums" ⟨"StabilitySums", "tryStep", "(I)V"⟩ ⟨"StabilitySums", "tryStep", "(I)V"⟩ ∈ UW := uw_at 11 (by decide +kernel) rfl
theorem uw_13 : Cond.selects "StabilitySumsModel" ⟨"StabilitySumsModel", "present", "()V"⟩ ⟨"StabilitySumsModel", "present", "()V"⟩ ∈ UW := uw_at 13 (by decide +kernel) rfl
theorem uw_14 : Cond.selects "StabilitySumsModel" ⟨"StabilitySumsModel", "sum", "(I)J"⟩ ⟨"StabilitySumsModel", "sum", "(I)J"⟩ ∈ UW := uw_at 14 (by decide +kernel) rfl
theorem uw_15 : Cond.selects "StabilitySumsModel" ⟨"StabilitySumsModel", "reckon", "(I)V"⟩ ⟨"StabilitySumsModel", "reckon", "(I)V"⟩ ∈ UW := uw_at 15 (by decide +kernel) rfl
theorem uw_16 : Cond.selects "StabilitySumsModel" ⟨"StabilitySumsModel", "free", "()J"⟩ ⟨"StabilitySumsModel", "free", "()J"⟩ ∈ UW := uw_at 16 (by decide +kernel) rfl
theorem uw_17 : Cond.selects "StabilitySumsModel" ⟨"StabilitySumsModel", "table", "(JZ)V"⟩ ⟨"StabilitySumsModel", "table", "(JZ)V"⟩ ∈ UW := uw_at 17 (by decide +kernel) rfl
theorem uw_18 : Cond.selects "StabilitySumsModel" ⟨"StabilitySumsModel", "fails", "(I)I"⟩ ⟨"StabilitySumsModel", "fails", "(I)I"⟩ ∈ UW := uw_at 18 (by decide +kernel) rfl
theorem uw_19 : Cond.selects "StabilitySumsModel" ⟨"StabilitySumsModel", "shearAt", "(J)J"⟩ ⟨"StabilitySumsModel", "shearAt", "(J)J"⟩ ∈ UW := uw_at 19 (by decide +kernel) rfl
theorem uw_20 : Cond.selects "StabilitySumsModel" ⟨"StabilitySumsModel", "bendingAt", "(J)J"⟩ ⟨"StabilitySumsModel", "bendingAt", "(J)J"⟩ ∈ UW := uw_at 20 (by decide +kernel) rfl
theorem uw_21 : Cond.selects "StabilitySumsModel" ⟨"StabilitySumsModel", "isTankThere", "(I)Z"⟩ ⟨"StabilitySumsModel", "isTankThere", "(I)Z"⟩ ∈ UW := uw_at 21 (by decide +kernel) rfl
theorem uw_22 : Cond.selects "StabilitySumsModel" ⟨"StabilitySumsModel", "broken0", "()I"⟩ ⟨"StabilitySumsModel", "broken0", "()I"⟩ ∈ UW := uw_at 22 (by decide +kernel) rfl
theorem uw_23 : Cond.selects "StabilitySumsModel" ⟨"StabilitySumsModel", "isBroken", "(I)Z"⟩ ⟨"StabilitySumsModel", "isBroken", "(I)Z"⟩ ∈ UW := uw_at 23 (by decide +kernel) rfl
theorem uw_24 : Cond.selects "StabilitySumsModel" ⟨"StabilitySumsModel", "pump", "()J"⟩ ⟨"StabilitySumsModel", "pump", "()J"⟩ ∈ UW := uw_at 24 (by decide +kernel) rfl
theorem uw_25 : Cond.selects "StabilitySumsModel" ⟨"StabilitySumsModel", "brokenBehind", "(I)I"⟩ ⟨"StabilitySumsModel", "brokenBehind", "(I)I"⟩ ∈ UW := uw_at 25 (by decide +kernel) rfl
theorem uw_26 : (Jvm.Cond.initialized "StabilitySumsLaw") ∈ UW := uw_at 26 (by decide +kernel) rfl
theorem uw_27 : (Jvm.Cond.initialized "StabilitySums") ∈ UW := uw_at 27 (by decide +kernel) rfl
theorem uw_28 : (Jvm.Cond.initialized "StabilitySums$Weights") ∈ UW := uw_at 28 (by decide +kernel) rfl
theorem uw_29 : (Jvm.Cond.initialized "StabilitySums$Tanks") ∈ UW := uw_at 29 (by decide +kernel) rfl
theorem uw_30 : (Jvm.Cond.initialized "StabilitySums$Table") ∈ UW := uw_at 30 (by decide +kernel) rfl
theorem uw_31 : (Jvm.Cond.initialized "StabilitySums$Limits") ∈ UW := uw_at 31 (by decide +kernel) rfl
theorem uw_32 : (Jvm.Cond.initialized "StabilitySums$Steps") ∈ UW := uw_at 32 (by decide +kernel) rfl
theorem uw_33 : (Jvm.Cond.initialized "StabilitySums$Sums") ∈ UW := uw_at 33 (by decide +kernel) rfl
theorem uw_34 : (Jvm.Cond.initialized "StabilitySums$Cuts") ∈ UW := uw_at 34 (by decide +kernel) rfl
theorem uw_35 : (Jvm.Cond.initialized "StabilitySums$Fraction") ∈ UW := uw_at 35 (by decide +kernel) rfl
theorem uw_36 : (Jvm.Cond.initialized "StabilitySumsModel") ∈ UW := uw_at 36 (by decide +kernel) rfl
theorem uw_37 : (Jvm.Cond.initialized "java/lang/Throwable") ∈ UW := uw_at 37 (by decide +kernel) rfl
theorem uw_38 : (Jvm.Cond.initialized "java/lang/Exception") ∈ UW := uw_at 38 (by decide +kernel) rfl
theorem uw_39 : (Jvm.Cond.initialized "java/lang/RuntimeException") ∈ UW := uw_at 39 (by decide +kernel) rfl
theorem uw_40 : (Jvm.Cond.initialized "java/lang/IllegalArgumentException") ∈ UW := uw_at 40 (by decide +kernel) rfl
theorem uw_41 : (Jvm.Cond.initialized "java/lang/IllegalStateException") ∈ UW := uw_at 41 (by decide +kernel) rfl
theorem uw_42 : (Jvm.Cond.initialized "java/lang/IndexOutOfBoundsException") ∈ UW := uw_at 42 (by decide +kernel) rfl
theorem uw_43 : (Jvm.Cond.initialized "java/lang/Math") ∈ UW := uw_at 43 (by decide +kernel) rfl
theorem uw_44 : (Jvm.Cond.initialized "java/lang/ArithmeticException") ∈ UW := uw_at 44 (by decide +kernel) rfl
theorem uw_45 : (Jvm.Cond.classLink "StabilitySumsLaw" (8 : Nat) "StabilitySums") ∈ UW := uw_at 45 (by decide +kernel) rfl
theorem uw_46 : (Jvm.Cond.instantiable "StabilitySums" (10 : Nat)) ∈ UW := uw_at 46 (by decide +kernel) rfl
theorem uw_47 : (Jvm.Cond.methodLink "StabilitySumsLaw" (60 : Nat) ({ cls := "StabilitySums", name := "<init>", desc := "()V" } : Jvm.MethodName)) ∈ UW := uw_at 47 (by decide +kernel) rfl
theorem uw_48 : (Jvm.Cond.instanceMethod ({ cls := "StabilitySums", name := "<init>", desc := "()V" } : Jvm.MethodName)) ∈ UW := uw_at 48 (by decide +kernel) rfl
set_option maxRecDepth 100000 in
theorem uw_49 : (Jvm.Cond.code ({ cls := "StabilitySums", name := "<init>", desc := "()V" } : Jvm.MethodName) prog_1_method_1_code (1 : Nat) (Option.none : Option Jvm.ClassFile.FieldType)) ∈ UW := uw_at 49 rfl rfl
theorem uw_50 : (Jvm.Cond.methodLink "StabilitySums" (1 : Nat) ({ cls := "java/lang/Object", name := "<init>", desc := "()V" } : Jvm.MethodName)) ∈ UW := uw_at 50 (by decide +kernel) rfl
theorem uw_51 : (Jvm.Cond.instanceMethod ({ cls := "java/lang/Object", name := "<init>", desc := "()V" } : Jvm.MethodName)) ∈ UW := uw_at 51 (by decide +kernel) rfl
set_option maxRecDepth 100000 in
theorem uw_52 : (Jvm.Cond.code ({ cls := "java/lang/Object", name := "<init>", desc := "()V" } : Jvm.MethodName) object_method_1_code (1 : Nat) (Option.none : Option Jvm.ClassFile.FieldType)) ∈ UW := uw_at 52 rfl rfl
theorem uw_53 : (Jvm.Cond.classLink "StabilitySums" (7 : Nat) "StabilitySums$Weights") ∈ UW := uw_at 53 (by decide +kernel) rfl
theorem uw_54 : (Jvm.Cond.instantiable "StabilitySums$Weights" (5 : Nat)) ∈ UW := uw_at 54 (by decide +kernel) rfl
theorem uw_56 : (Jvm.Cond.instanceMethod ({ cls := "StabilitySums$Weights", name := "<init>", desc := "()V" } : Jvm.MethodName)) ∈ UW := uw_at 56 (by decide +kernel) rfl
set_option maxRecDepth 100000 in
theorem uw_57 : (Jvm.Cond.code ({ cls := "StabilitySums$Weights", name := "<init>", desc := "()V" } : Jvm.MethodName) prog_9_method_1_code (1 : Nat) (Option.none : Option Jvm.ClassFile.FieldType)) ∈ UW := uw_at 57 rfl rfl
theorem uw_58 : (Jvm.Cond.methodLink "StabilitySums$Weights" (3 : Nat) ({ cls := "java/lang/Object", name := "<init>", desc := "()V" } : Jvm.MethodName)) ∈ UW := uw_at 58 (by decide +kernel) rfl
theorem uw_59 : (Jvm.Cond.fieldLink "StabilitySums$Weights" (9 : Nat) "StabilitySums$Weights" "kg" "[J") ∈ UW := uw_at 59 (by decide +kernel) rfl
theorem uw_60 : (Jvm.Cond.fieldLink "StabilitySums" (252 : Nat) "StabilitySums$Weights" "kg" "[J") ∈ UW := uw_at 60 (by decide +kernel) rfl
theorem uw_61 : (Jvm.Cond.fieldLink "StabilitySums$Weights" (15 : Nat) "StabilitySums$Weights" "x" "[J") ∈ UW := uw_at 61 (by decide +kernel) rfl
theorem uw_62 : (Jvm.Cond.fieldLink "StabilitySums" (265 : Nat) "StabilitySums$Weights" "x" "[J") ∈ UW := uw_at 62 (by decide +kernel) rfl
theorem uw_63 : (Jvm.Cond.fieldLink "StabilitySums$Weights" (18 : Nat) "StabilitySums$Weights" "y" "[J") ∈ UW := uw_at 63 (by decide +kernel) rfl
theorem uw_64 : (Jvm.Cond.fieldLink "StabilitySums" (268 : Nat) "StabilitySums$Weights" "y" "[J") ∈ UW := uw_at 64 (by decide +kernel) rfl
theorem uw_65 : (Jvm.Cond.fieldLink "StabilitySums$Weights" (21 : Nat) "StabilitySums$Weights" "z" "[J") ∈ UW := uw_at 65 (by decide +kernel) rfl
theorem uw_66 : (Jvm.Cond.fieldLink "StabilitySums" (271 : Nat) "StabilitySums$Weights" "z" "[J") ∈ UW := uw_at 66 (by decide +kernel) rfl
theorem uw_67 : (Jvm.Cond.fieldLink "StabilitySums$Weights" (24 : Nat) "StabilitySums$Weights" "count" "I") ∈ UW := uw_at 67 (by decide +kernel) rfl
theorem uw_68 : (Jvm.Cond.fieldLink "StabilitySums" (92 : Nat) "StabilitySums$Weights" "count" "I") ∈ UW := uw_at 68 (by decide +kernel) rfl
theorem uw_69 : (Jvm.Cond.laysFinal "StabilitySums$Weights" "StabilitySums$Weights" "kg" "[J") ∈ UW := uw_at 69 (by decide +kernel) rfl
theorem uw_71 : (Jvm.Cond.laysFinal "StabilitySums$Weights" "StabilitySums$Weights" "x" "[J") ∈ UW := uw_at 71 (by decide +kernel) rfl
theorem uw_73 : (Jvm.Cond.laysFinal "StabilitySums$Weights" "StabilitySums$Weights" "y" "[J") ∈ UW := uw_at 73 (by decide +kernel) rfl
theorem uw_75 : (Jvm.Cond.laysFinal "StabilitySums$Weights" "StabilitySums$Weights" "z" "[J") ∈ UW := uw_at 75 (by decide +kernel) rfl
theorem uw_77 : (Jvm.Cond.lays "StabilitySums$Weights" "StabilitySums$Weights" "count" "I") ∈ UW := uw_at 77 (by decide +kernel) rfl
theorem uw_80 : (Jvm.Cond.arrayClass Jvm.ClassFile.FieldType.long) ∈ UW := uw_at 80 (by decide +kernel) rfl
theorem uw_81 : (Jvm.Cond.classLink "StabilitySums" (16 : Nat) "StabilitySums$Tanks") ∈ UW := uw_at 81 (by decide +kernel) rfl
theorem uw_82 : (Jvm.Cond.instantiable "StabilitySums$Tanks" (9 : Nat)) ∈ UW := uw_at 82 (by decide +kernel) rfl
theorem uw_84 : (Jvm.Cond.instanceMethod ({ cls := "StabilitySums$Tanks", name := "<init>", desc := "()V" } : Jvm.MethodName)) ∈ UW := uw_at 84 (by decide +kernel) rfl
set_option maxRecDepth 100000 in
theorem uw_85 : (Jvm.Cond.code ({ cls := "StabilitySums$Tanks", name := "<init>", desc := "()V" } : Jvm.MethodName) prog_8_method_1_code (1 : Nat) (Option.none : Option Jvm.ClassFile.FieldType)) ∈ UW := uw_at 85 rfl rfl
theorem uw_86 : (Jvm.Cond.methodLink "StabilitySums$Tanks" (3 : Nat) ({ cls := "java/lang/Object", name := "<init>", desc := "()V" } : Jvm.MethodName)) ∈ UW := uw_at 86 (by decide +kernel) rfl
theorem uw_87 : (Jvm.Cond.fieldLink "StabilitySums$Tanks" (9 : Nat) "StabilitySums$Tanks" "most" "[J") ∈ UW := uw_at 87 (by decide +kernel) rfl
theorem uw_88 : (Jvm.Cond.fieldLink "StabilitySums" (124 : Nat) "StabilitySums$Tanks" "most" "[J") ∈ UW := uw_at 88 (by decide +kernel) rfl
theorem uw_89 : (Jvm.Cond.fieldLink "StabilitySums$Tanks" (15 : Nat) "StabilitySums$Tanks" "surface" "[J") ∈ UW := uw_at 89 (by decide +kernel) rfl
theorem uw_90 : (Jvm.Cond.fieldLink "StabilitySums$Tanks" (18 : Nat) "StabilitySums$Tanks" "x" "[J") ∈ UW := uw_at 90 (by decide +kernel) rfl
theorem uw_91 : (Jvm.Cond.fieldLink "StabilitySums" (288 : Nat) "StabilitySums$Tanks" "x" "[J") ∈ UW := uw_at 91 (by decide +kernel) rfl
theorem uw_92 : (Jvm.Cond.fieldLink "StabilitySums$Tanks" (21 : Nat) "StabilitySums$Tanks" "y" "[J") ∈ UW := uw_at 92 (by decide +kernel) rfl
theorem uw_93 : (Jvm.Cond.fieldLink "StabilitySums" (289 : Nat) "StabilitySums$Tanks" "y" "[J") ∈ UW := uw_at 93 (by decide +kernel) rfl
theorem uw_94 : (Jvm.Cond.fieldLink "StabilitySums$Tanks" (24 : Nat) "StabilitySums$Tanks" "z" "[J") ∈ UW := uw_at 94 (by decide +kernel) rfl
theorem uw_95 : (Jvm.Cond.fieldLink "StabilitySums" (290 : Nat) "StabilitySums$Tanks" "z" "[J") ∈ UW := uw_at 95 (by decide +kernel) rfl
theorem uw_96 : (Jvm.Cond.fieldLink "StabilitySums$Tanks" (27 : Nat) "StabilitySums$Tanks" "filled" "[J") ∈ UW := uw_at 96 (by decide +kernel) rfl
theorem uw_97 : (Jvm.Cond.fieldLink "StabilitySums" (128 : Nat) "StabilitySums$Tanks" "filled" "[J") ∈ UW := uw_at 97 (by decide +kernel) rfl
theorem uw_98 : (Jvm.Cond.fieldLink "StabilitySums$Tanks" (30 : Nat) "StabilitySums$Tanks" "tried" "[J") ∈ UW := uw_at 98 (by decide +kernel) rfl
theorem uw_99 : (Jvm.Cond.fieldLink "StabilitySums" (259 : Nat) "StabilitySums$Tanks" "tried" "[J") ∈ UW := uw_at 99 (by decide +kernel) rfl
theorem uw_100 : (Jvm.Cond.fieldLink "StabilitySums$Tanks" (33 : Nat) "StabilitySums$Tanks" "found" "[J") ∈ UW := uw_at 100 (by decide +kernel) rfl
theorem uw_101 : (Jvm.Cond.fieldLink "StabilitySums" (218 : Nat) "StabilitySums$Tanks" "found" "[J") ∈ UW := uw_at 101 (by decide +kernel) rfl
theorem uw_102 : (Jvm.Cond.fieldLink "StabilitySums$Tanks" (36 : Nat) "StabilitySums$Tanks" "count" "I") ∈ UW := uw_at 102 (by decide +kernel) rfl
theorem uw_103 : (Jvm.Cond.fieldLink "StabilitySums" (113 : Nat) "StabilitySums$Tanks" "count" "I") ∈ UW := uw_at 103 (by decide +kernel) rfl
theorem uw_104 : (Jvm.Cond.laysFinal "StabilitySums$Tanks" "StabilitySums$Tanks" "most" "[J") ∈ UW := uw_at 104 (by decide +kernel) rfl
theorem uw_106 : (Jvm.Cond.laysFinal "StabilitySums$Tanks" "StabilitySums$Tanks" "surface" "[J") ∈ UW := uw_at 106 (by decide +kernel) rfl
theorem uw_108 : (Jvm.Cond.laysFinal "StabilitySums$Tanks" "StabilitySums$Tanks" "x" "[J") ∈ UW := uw_at 108 (by decide +kernel) rfl
theorem uw_110 : (Jvm.Cond.laysFinal "StabilitySums$Tanks" "StabilitySums$Tanks" "y" "[J") ∈ UW := uw_at 110 (by decide +kernel) rfl
theorem uw_112 : (Jvm.Cond.laysFinal "StabilitySums$Tanks" "StabilitySums$Tanks" "z" "[J") ∈ UW := uw_at 112 (by decide +kernel) rfl
theorem uw_114 : (Jvm.Cond.laysFinal "StabilitySums$Tanks" "StabilitySums$Tanks" "filled" "[J") ∈ UW := uw_at 114 (by decide +kernel) rfl
theorem uw_116 : (Jvm.Cond.laysFinal "StabilitySums$Tanks" "StabilitySums$Tanks" "tried" "[J") ∈ UW := uw_at 116 (by decide +kernel) rfl
theorem uw_118 : (Jvm.Cond.laysFinal "StabilitySums$Tanks" "StabilitySums$Tanks" "found" "[J") ∈ UW := uw_at 118 (by decide +kernel) rfl
theorem uw_120 : (Jvm.Cond.lays "StabilitySums$Tanks" "StabilitySums$Tanks" "count" "I") ∈ UW := uw_at 120 (by decide +kernel) rfl
theorem uw_123 : (Jvm.Cond.classLink "StabilitySums" (23 : Nat) "StabilitySums$Table") ∈ UW := uw_at 123 (by decide +kernel) rfl
theorem uw_124 : (Jvm.Cond.instantiable "StabilitySums$Table" (4 : Nat)) ∈ UW := uw_at 124 (by decide +kernel) rfl
theorem uw_126 : (Jvm.Cond.instanceMethod ({ cls := "StabilitySums$Table", name := "<init>", desc := "()V" } : Jvm.MethodName)) ∈ UW := uw_at 126 (by decide +kernel) rfl
set_option maxRecDepth 100000 in
theorem uw_127 : (Jvm.Cond.code ({ cls := "StabilitySums$Table", name := "<init>", desc := "()V" } : Jvm.MethodName) prog_7_method_1_code (1 : Nat) (Option.none : Option Jvm.ClassFile.FieldType)) ∈ UW := uw_at 127 rfl rfl
theorem uw_128 : (Jvm.Cond.methodLink "StabilitySums$Table" (3 : Nat) ({ cls := "java/lang/Object", name := "<init>", desc := "()V" } : Jvm.MethodName)) ∈ UW := uw_at 128 (by decide +kernel) rfl
theorem uw_129 : (Jvm.Cond.fieldLink "StabilitySums$Table" (9 : Nat) "StabilitySums$Table" "displacement" "[J") ∈ UW := uw_at 129 (by decide +kernel) rfl
theorem uw_130 : (Jvm.Cond.fieldLink "StabilitySums$Table" (15 : Nat) "StabilitySums$Table" "height" "[J") ∈ UW := uw_at 130 (by decide +kernel) rfl
theorem uw_131 : (Jvm.Cond.fieldLink "StabilitySums" (312 : Nat) "StabilitySums$Table" "height" "[J") ∈ UW := uw_at 131 (by decide +kernel) rfl
theorem uw_132 : (Jvm.Cond.fieldLink "StabilitySums$Table" (18 : Nat) "StabilitySums$Table" "draft" "[J") ∈ UW := uw_at 132 (by decide +kernel) rfl
theorem uw_133 : (Jvm.Cond.fieldLink "StabilitySums" (319 : Nat) "StabilitySums$Table" "draft" "[J") ∈ UW := uw_at 133 (by decide +kernel) rfl
theorem uw_134 : (Jvm.Cond.fieldLink "StabilitySums$Table" (21 : Nat) "StabilitySums$Table" "count" "I") ∈ UW := uw_at 134 (by decide +kernel) rfl
theorem uw_135 : (Jvm.Cond.fieldLink "StabilitySums" (143 : Nat) "StabilitySums$Table" "count" "I") ∈ UW := uw_at 135 (by decide +kernel) rfl
theorem uw_136 : (Jvm.Cond.laysFinal "StabilitySums$Table" "StabilitySums$Table" "displacement" "[J") ∈ UW := uw_at 136 (by decide +kernel) rfl
theorem uw_138 : (Jvm.Cond.laysFinal "StabilitySums$Table" "StabilitySums$Table" "height" "[J") ∈ UW := uw_at 138 (by decide +kernel) rfl
theorem uw_140 : (Jvm.Cond.laysFinal "StabilitySums$Table" "StabilitySums$Table" "draft" "[J") ∈ UW := uw_at 140 (by decide +kernel) rfl
theorem uw_142 : (Jvm.Cond.lays "StabilitySums$Table" "StabilitySums$Table" "count" "I") ∈ UW := uw_at 142 (by decide +kernel) rfl
theorem uw_145 : (Jvm.Cond.classLink "StabilitySums" (30 : Nat) "StabilitySums$Limits") ∈ UW := uw_at 145 (by decide +kernel) rfl
theorem uw_146 : (Jvm.Cond.instantiable "StabilitySums$Limits" (4 : Nat)) ∈ UW := uw_at 146 (by decide +kernel) rfl
theorem uw_148 : (Jvm.Cond.instanceMethod ({ cls := "StabilitySums$Limits", name := "<init>", desc := "()V" } : Jvm.MethodName)) ∈ UW := uw_at 148 (by decide +kernel) rfl
set_option maxRecDepth 100000 in
theorem uw_149 : (Jvm.Cond.code ({ cls := "StabilitySums$Limits", name := "<init>", desc := "()V" } : Jvm.MethodName) prog_4_method_1_code (1 : Nat) (Option.none : Option Jvm.ClassFile.FieldType)) ∈ UW := uw_at 149 rfl rfl
theorem uw_150 : (Jvm.Cond.methodLink "StabilitySums$Limits" (3 : Nat) ({ cls := "java/lang/Object", name := "<init>", desc := "()V" } : Jvm.MethodName)) ∈ UW := uw_at 150 (by decide +kernel) rfl
theorem uw_151 : (Jvm.Cond.fieldLink "StabilitySums$Limits" (9 : Nat) "StabilitySums$Limits" "what" "[I") ∈ UW := uw_at 151 (by decide +kernel) rfl
theorem uw_152 : (Jvm.Cond.fieldLink "StabilitySums" (332 : Nat) "StabilitySums$Limits" "what" "[I") ∈ UW := uw_at 152 (by decide +kernel) rfl
theorem uw_153 : (Jvm.Cond.fieldLink "StabilitySums$Limits" (15 : Nat) "StabilitySums$Limits" "low" "[J") ∈ UW := uw_at 153 (by decide +kernel) rfl
theorem uw_154 : (Jvm.Cond.fieldLink "StabilitySums$Limits" (19 : Nat) "StabilitySums$Limits" "high" "[J") ∈ UW := uw_at 154 (by decide +kernel) rfl
theorem uw_155 : (Jvm.Cond.fieldLink "StabilitySums$Limits" (22 : Nat) "StabilitySums$Limits" "count" "I") ∈ UW := uw_at 155 (by decide +kernel) rfl
theorem uw_156 : (Jvm.Cond.fieldLink "StabilitySums" (203 : Nat) "StabilitySums$Limits" "count" "I") ∈ UW := uw_at 156 (by decide +kernel) rfl
theorem uw_157 : (Jvm.Cond.laysFinal "StabilitySums$Limits" "StabilitySums$Limits" "what" "[I") ∈ UW := uw_at 157 (by decide +kernel) rfl
theorem uw_159 : (Jvm.Cond.laysFinal "StabilitySums$Limits" "StabilitySums$Limits" "low" "[J") ∈ UW := uw_at 159 (by decide +kernel) rfl
theorem uw_161 : (Jvm.Cond.laysFinal "StabilitySums$Limits" "StabilitySums$Limits" "high" "[J") ∈ UW := uw_at 161 (by decide +kernel) rfl
theorem uw_163 : (Jvm.Cond.lays "StabilitySums$Limits" "StabilitySums$Limits" "count" "I") ∈ UW := uw_at 163 (by decide +kernel) rfl
theorem uw_166 : (Jvm.Cond.arrayClass Jvm.ClassFile.FieldType.int) ∈ UW := uw_at 166 (by decide +kernel) rfl
theorem uw_167 : (Jvm.Cond.classLink "StabilitySums" (37 : Nat) "StabilitySums$Steps") ∈ UW := uw_at 167 (by decide +kernel) rfl
theorem uw_168 : (Jvm.Cond.instantiable "StabilitySums$Steps" (4 : Nat)) ∈ UW := uw_at 168 (by decide +kernel) rfl
theorem uw_170 : (Jvm.Cond.instanceMethod ({ cls := "StabilitySums$Steps", name := "<init>", desc := "()V" } : Jvm.MethodName)) ∈ UW := uw_at 170 (by decide +kernel) rfl
set_option maxRecDepth 100000 in
theorem uw_171 : (Jvm.Cond.code ({ cls := "StabilitySums$Steps", name := "<init>", desc := "()V" } : Jvm.MethodName) prog_5_method_1_code (1 : Nat) (Option.none : Option Jvm.ClassFile.FieldType)) ∈ UW := uw_at 171 rfl rfl
theorem uw_172 : (Jvm.Cond.methodLink "StabilitySums$Steps" (3 : Nat) ({ cls := "java/lang/Object", name := "<init>", desc := "()V" } : Jvm.MethodName)) ∈ UW := uw_at 172 (by decide +kernel) rfl
theorem uw_173 : (Jvm.Cond.fieldLink "StabilitySums$Steps" (9 : Nat) "StabilitySums$Steps" "ofTank" "[Z") ∈ UW := uw_at 173 (by decide +kernel) rfl
theorem uw_174 : (Jvm.Cond.fieldLink "StabilitySums" (291 : Nat) "StabilitySums$Steps" "ofTank" "[Z") ∈ UW := uw_at 174 (by decide +kernel) rfl
theorem uw_175 : (Jvm.Cond.fieldLink "StabilitySums$Steps" (15 : Nat) "StabilitySums$Steps" "number" "[I") ∈ UW := uw_at 175 (by decide +kernel) rfl
theorem uw_176 : (Jvm.Cond.fieldLink "StabilitySums" (295 : Nat) "StabilitySums$Steps" "number" "[I") ∈ UW := uw_at 176 (by decide +kernel) rfl
theorem uw_177 : (Jvm.Cond.fieldLink "StabilitySums$Steps" (19 : Nat) "StabilitySums$Steps" "kg" "[J") ∈ UW := uw_at 177 (by decide +kernel) rfl
theorem uw_178 : (Jvm.Cond.fieldLink "StabilitySums" (299 : Nat) "StabilitySums$Steps" "kg" "[J") ∈ UW := uw_at 178 (by decide +kernel) rfl
theorem uw_179 : (Jvm.Cond.fieldLink "StabilitySums$Steps" (23 : Nat) "StabilitySums$Steps" "count" "I") ∈ UW := uw_at 179 (by decide +kernel) rfl
theorem uw_180 : (Jvm.Cond.fieldLink "StabilitySums" (225 : Nat) "StabilitySums$Steps" "count" "I") ∈ UW := uw_at 180 (by decide +kernel) rfl
theorem uw_181 : (Jvm.Cond.laysFinal "StabilitySums$Steps" "StabilitySums$Steps" "ofTank" "[Z") ∈ UW := uw_at 181 (by decide +kernel) rfl
theorem uw_183 : (Jvm.Cond.laysFinal "StabilitySums$Steps" "StabilitySums$Steps" "number" "[I") ∈ UW := uw_at 183 (by decide +kernel) rfl
theorem uw_185 : (Jvm.Cond.laysFinal "StabilitySums$Steps" "StabilitySums$Steps" "kg" "[J") ∈ UW := uw_at 185 (by decide +kernel) rfl
theorem uw_187 : (Jvm.Cond.lays "StabilitySums$Steps" "StabilitySums$Steps" "count" "I") ∈ UW := uw_at 187 (by decide +kernel) rfl
theorem uw_190 : (Jvm.Cond.arrayClass Jvm.ClassFile.FieldType.boolean) ∈ UW := uw_at 190 (by decide +kernel) rfl
theorem uw_191 : (Jvm.Cond.classLink "StabilitySums" (44 : Nat) "StabilitySums$Sums") ∈ UW := uw_at 191 (by decide +kernel) rfl
theorem uw_192 : (Jvm.Cond.instantiable "StabilitySums$Sums" (5 : Nat)) ∈ UW := uw_at 192 (by decide +kernel) rfl
theorem uw_194 : (Jvm.Cond.instanceMethod ({ cls := "StabilitySums$Sums", name := "<init>", desc := "()V" } : Jvm.MethodName)) ∈ UW := uw_at 194 (by decide +kernel) rfl
set_option maxRecDepth 100000 in
theorem uw_195 : (Jvm.Cond.code ({ cls := "StabilitySums$Sums", name := "<init>", desc := "()V" } : Jvm.MethodName) prog_6_method_1_code (1 : Nat) (Option.none : Option Jvm.ClassFile.FieldType)) ∈ UW := uw_at 195 rfl rfl
theorem uw_196 : (Jvm.Cond.methodLink "StabilitySums$Sums" (1 : Nat) ({ cls := "java/lang/Object", name := "<init>", desc := "()V" } : Jvm.MethodName)) ∈ UW := uw_at 196 (by decide +kernel) rfl
theorem uw_197 : (Jvm.Cond.fieldLink "StabilitySums$Sums" (7 : Nat) "StabilitySums$Sums" "displacement" "J") ∈ UW := uw_at 197 (by decide +kernel) rfl
theorem uw_198 : (Jvm.Cond.fieldLink "StabilitySums" (300 : Nat) "StabilitySums$Sums" "displacement" "J") ∈ UW := uw_at 198 (by decide +kernel) rfl
theorem uw_199 : (Jvm.Cond.fieldLink "StabilitySums$Sums" (13 : Nat) "StabilitySums$Sums" "x" "J") ∈ UW := uw_at 199 (by decide +kernel) rfl
theorem uw_200 : (Jvm.Cond.fieldLink "StabilitySums" (303 : Nat) "StabilitySums$Sums" "x" "J") ∈ UW := uw_at 200 (by decide +kernel) rfl
theorem uw_201 : (Jvm.Cond.fieldLink "StabilitySums$Sums" (16 : Nat) "StabilitySums$Sums" "y" "J") ∈ UW := uw_at 201 (by decide +kernel) rfl
theorem uw_202 : (Jvm.Cond.fieldLink "StabilitySums" (308 : Nat) "StabilitySums$Sums" "y" "J") ∈ UW := uw_at 202 (by decide +kernel) rfl
theorem uw_203 : (Jvm.Cond.fieldLink "StabilitySums$Sums" (19 : Nat) "StabilitySums$Sums" "z" "J") ∈ UW := uw_at 203 (by decide +kernel) rfl
theorem uw_204 : (Jvm.Cond.fieldLink "StabilitySums" (310 : Nat) "StabilitySums$Sums" "z" "J") ∈ UW := uw_at 204 (by decide +kernel) rfl
theorem uw_205 : (Jvm.Cond.fieldLink "StabilitySums$Sums" (22 : Nat) "StabilitySums$Sums" "surfaces" "J") ∈ UW := uw_at 205 (by decide +kernel) rfl
theorem uw_206 : (Jvm.Cond.fieldLink "StabilitySums" (281 : Nat) "StabilitySums$Sums" "surfaces" "J") ∈ UW := uw_at 206 (by decide +kernel) rfl
theorem uw_207 : (Jvm.Cond.lays "StabilitySums$Sums" "StabilitySums$Sums" "displacement" "J") ∈ UW := uw_at 207 (by decide +kernel) rfl
theorem uw_209 : (Jvm.Cond.lays "StabilitySums$Sums" "StabilitySums$Sums" "x" "J") ∈ UW := uw_at 209 (by decide +kernel) rfl
theorem uw_211 : (Jvm.Cond.lays "StabilitySums$Sums" "StabilitySums$Sums" "y" "J") ∈ UW := uw_at 211 (by decide +kernel) rfl
theorem uw_213 : (Jvm.Cond.lays "StabilitySums$Sums" "StabilitySums$Sums" "z" "J") ∈ UW := uw_at 213 (by decide +kernel) rfl
theorem uw_215 : (Jvm.Cond.lays "StabilitySums$Sums" "StabilitySums$Sums" "surfaces" "J") ∈ UW := uw_at 215 (by decide +kernel) rfl
theorem uw_218 : (Jvm.Cond.classLink "StabilitySums" (51 : Nat) "StabilitySums$Cuts") ∈ UW := uw_at 218 (by decide +kernel) rfl
theorem uw_219 : (Jvm.Cond.instantiable "StabilitySums$Cuts" (4 : Nat)) ∈ UW := uw_at 219 (by decide +kernel) rfl
theorem uw_221 : (Jvm.Cond.instanceMethod ({ cls := "StabilitySums$Cuts", name := "<init>", desc := "()V" } : Jvm.MethodName)) ∈ UW := uw_at 221 (by decide +kernel) rfl
set_option maxRecDepth 100000 in
theorem uw_222 : (Jvm.Cond.code ({ cls := "StabilitySums$Cuts", name := "<init>", desc := "()V" } : Jvm.MethodName) prog_2_method_1_code (1 : Nat) (Option.none : Option Jvm.ClassFile.FieldType)) ∈ UW := uw_at 222 rfl rfl
theorem uw_223 : (Jvm.Cond.methodLink "StabilitySums$Cuts" (3 : Nat) ({ cls := "java/lang/Object", name := "<init>", desc := "()V" } : Jvm.MethodName)) ∈ UW := uw_at 223 (by decide +kernel) rfl
theorem uw_224 : (Jvm.Cond.fieldLink "StabilitySums$Cuts" (9 : Nat) "StabilitySums$Cuts" "place" "[J") ∈ UW := uw_at 224 (by decide +kernel) rfl
theorem uw_225 : (Jvm.Cond.fieldLink "StabilitySums" (185 : Nat) "StabilitySums$Cuts" "place" "[J") ∈ UW := uw_at 225 (by decide +kernel) rfl
theorem uw_226 : (Jvm.Cond.fieldLink "StabilitySums$Cuts" (15 : Nat) "StabilitySums$Cuts" "kg" "[J") ∈ UW := uw_at 226 (by decide +kernel) rfl
theorem uw_227 : (Jvm.Cond.fieldLink "StabilitySums" (322 : Nat) "StabilitySums$Cuts" "kg" "[J") ∈ UW := uw_at 227 (by decide +kernel) rfl
theorem uw_228 : (Jvm.Cond.fieldLink "StabilitySums$Cuts" (18 : Nat) "StabilitySums$Cuts" "turn" "[J") ∈ UW := uw_at 228 (by decide +kernel) rfl
theorem uw_229 : (Jvm.Cond.fieldLink "StabilitySums" (326 : Nat) "StabilitySums$Cuts" "turn" "[J") ∈ UW := uw_at 229 (by decide +kernel) rfl
theorem uw_230 : (Jvm.Cond.fieldLink "StabilitySums$Cuts" (21 : Nat) "StabilitySums$Cuts" "last" "I") ∈ UW := uw_at 230 (by decide +kernel) rfl
theorem uw_231 : (Jvm.Cond.laysFinal "StabilitySums$Cuts" "StabilitySums$Cuts" "place" "[J") ∈ UW := uw_at 231 (by decide +kernel) rfl
theorem uw_233 : (Jvm.Cond.laysFinal "StabilitySums$Cuts" "StabilitySums$Cuts" "kg" "[J") ∈ UW := uw_at 233 (by decide +kernel) rfl
theorem uw_235 : (Jvm.Cond.laysFinal "StabilitySums$Cuts" "StabilitySums$Cuts" "turn" "[J") ∈ UW := uw_at 235 (by decide +kernel) rfl
theorem uw_237 : (Jvm.Cond.lays "StabilitySums$Cuts" "StabilitySums$Cuts" "last" "I") ∈ UW := uw_at 237 (by decide +kernel) rfl
theorem uw_240 : (Jvm.Cond.classLink "StabilitySums" (58 : Nat) "StabilitySums$Fraction") ∈ UW := uw_at 240 (by decide +kernel) rfl
theorem uw_241 : (Jvm.Cond.instantiable "StabilitySums$Fraction" (2 : Nat)) ∈ UW := uw_at 241 (by decide +kernel) rfl
theorem uw_243 : (Jvm.Cond.instanceMethod ({ cls := "StabilitySums$Fraction", name := "<init>", desc := "()V" } : Jvm.MethodName)) ∈ UW := uw_at 243 (by decide +kernel) rfl
set_option maxRecDepth 100000 in
theorem uw_244 : (Jvm.Cond.code ({ cls := "StabilitySums$Fraction", name := "<init>", desc := "()V" } : Jvm.MethodName) prog_3_method_1_code (1 : Nat) (Option.none : Option Jvm.ClassFile.FieldType)) ∈ UW := uw_at 244 rfl rfl
theorem uw_245 : (Jvm.Cond.methodLink "StabilitySums$Fraction" (1 : Nat) ({ cls := "java/lang/Object", name := "<init>", desc := "()V" } : Jvm.MethodName)) ∈ UW := uw_at 245 (by decide +kernel) rfl
theorem uw_246 : (Jvm.Cond.fieldLink "StabilitySums$Fraction" (7 : Nat) "StabilitySums$Fraction" "top" "J") ∈ UW := uw_at 246 (by decide +kernel) rfl
theorem uw_247 : (Jvm.Cond.fieldLink "StabilitySums" (177 : Nat) "StabilitySums$Fraction" "top" "J") ∈ UW := uw_at 247 (by decide +kernel) rfl
theorem uw_248 : (Jvm.Cond.fieldLink "StabilitySums$Fraction" (13 : Nat) "StabilitySums$Fraction" "bottom" "J") ∈ UW := uw_at 248 (by decide +kernel) rfl
theorem uw_249 : (Jvm.Cond.fieldLink "StabilitySums" (180 : Nat) "StabilitySums$Fraction" "bottom" "J") ∈ UW := uw_at 249 (by decide +kernel) rfl
theorem uw_250 : (Jvm.Cond.lays "StabilitySums$Fraction" "StabilitySums$Fraction" "top" "J") ∈ UW := uw_at 250 (by decide +kernel) rfl
theorem uw_252 : (Jvm.Cond.lays "StabilitySums$Fraction" "StabilitySums$Fraction" "bottom" "J") ∈ UW := uw_at 252 (by decide +kernel) rfl
theorem uw_255 : (Jvm.Cond.constantLong "StabilitySums" (69 : Nat) (10000 : Int64)) ∈ UW := uw_at 255 (by decide +kernel) rfl
theorem uw_256 : (Jvm.Cond.fieldLink "StabilitySums" (10 : Nat) "StabilitySums" "weights" "LStabilitySums$Weights;") ∈ UW := uw_at 256 (by decide +kernel) rfl
theorem uw_257 : (Jvm.Cond.fieldLink "StabilitySums" (19 : Nat) "StabilitySums" "tanks" "LStabilitySums$Tanks;") ∈ UW := uw_at 257 (by decide +kernel) rfl
theorem uw_258 : (Jvm.Cond.fieldLink "StabilitySums" (26 : Nat) "StabilitySums" "table" "LStabilitySums$Table;") ∈ UW := uw_at 258 (by decide +kernel) rfl
theorem uw_259 : (Jvm.Cond.fieldLink "StabilitySums" (33 : Nat) "StabilitySums" "limits" "LStabilitySums$Limits;") ∈ UW := uw_at 259 (by decide +kernel) rfl
theorem uw_260 : (Jvm.Cond.fieldLink "StabilitySums" (40 : Nat) "StabilitySums" "steps" "LStabilitySums$Steps;") ∈ UW := uw_at 260 (by decide +kernel) rfl
theorem uw_261 : (Jvm.Cond.fieldLink "StabilitySums" (47 : Nat) "StabilitySums" "sums" "LStabilitySums$Sums;") ∈ UW := uw_at 261 (by decide +kernel) rfl
theorem uw_262 : (Jvm.Cond.fieldLink "StabilitySums" (54 : Nat) "StabilitySums" "cuts" "LStabilitySums$Cuts;") ∈ UW := uw_at 262 (by decide +kernel) rfl
theorem uw_263 : (Jvm.Cond.fieldLink "StabilitySums" (61 : Nat) "StabilitySums" "fraction" "LStabilitySums$Fraction;") ∈ UW := uw_at 263 (by decide +kernel) rfl
theorem uw_264 : (Jvm.Cond.fieldLink "StabilitySums" (65 : Nat) "StabilitySums" "left" "J") ∈ UW := uw_at 264 (by decide +kernel) rfl
theorem uw_265 : (Jvm.Cond.fieldLink "StabilitySums" (71 : Nat) "StabilitySums" "right" "J") ∈ UW := uw_at 265 (by decide +kernel) rfl
theorem uw_266 : (Jvm.Cond.laysFinal "StabilitySums" "StabilitySums" "weights" "LStabilitySums$Weights;") ∈ UW := uw_at 266 (by decide +kernel) rfl
theorem uw_268 : (Jvm.Cond.laysFinal "StabilitySums" "StabilitySums" "tanks" "LStabilitySums$Tanks;") ∈ UW := uw_at 268 (by decide +kernel) rfl
theorem uw_270 : (Jvm.Cond.laysFinal "StabilitySums" "StabilitySums" "table" "LStabilitySums$Table;") ∈ UW := uw_at 270 (by decide +kernel) rfl
theorem uw_272 : (Jvm.Cond.laysFinal "StabilitySums" "StabilitySums" "limits" "LStabilitySums$Limits;") ∈ UW := uw_at 272 (by decide +kernel) rfl
theorem uw_274 : (Jvm.Cond.laysFinal "StabilitySums" "StabilitySums" "steps" "LStabilitySums$Steps;") ∈ UW := uw_at 274 (by decide +kernel) rfl
theorem uw_276 : (Jvm.Cond.laysFinal "StabilitySums" "StabilitySums" "sums" "LStabilitySums$Sums;") ∈ UW := uw_at 276 (by decide +kernel) rfl
theorem uw_278 : (Jvm.Cond.laysFinal "StabilitySums" "StabilitySums" "cuts" "LStabilitySums$Cuts;") ∈ UW := uw_at 278 (by decide +kernel) rfl
theorem uw_280 : (Jvm.Cond.laysFinal "StabilitySums" "StabilitySums" "fraction" "LStabilitySums$Fraction;") ∈ UW := uw_at 280 (by decide +kernel) rfl
theorem uw_282 : (Jvm.Cond.lays "StabilitySums" "StabilitySums" "left" "J") ∈ UW := uw_at 282 (by decide +kernel) rfl
theorem uw_284 : (Jvm.Cond.lays "StabilitySums" "StabilitySums" "right" "J") ∈ UW := uw_at 284 (by decide +kernel) rfl
theorem uw_287 : (Jvm.Cond.methodLink "StabilitySumsLaw" (88 : Nat) ({ cls := "StabilitySums", name := "hull", desc := "(JJ)Z" } : Jvm.MethodName)) ∈ UW := uw_at 287 (by decide +kernel) rfl
theorem uw_288 : (Jvm.Cond.instanceMethod ({ cls := "StabilitySums", name := "hull", desc := "(JJ)Z" } : Jvm.MethodName)) ∈ UW := uw_at 288 (by decide +kernel) rfl
theorem uw_289 : (Jvm.Cond.selects "StabilitySums" ({ cls := "StabilitySums", name := "hull", desc := "(JJ)Z" } : Jvm.MethodName) ({ cls := "StabilitySums", name := "hull", desc := "(JJ)Z" } : Jvm.MethodName)) ∈ UW := uw_at 289 (by decide +kernel) rfl
set_option maxRecDepth 100000 in
theorem uw_290 : (Jvm.Cond.code ({ cls := "StabilitySums", name := "hull", desc := "(JJ)Z" } : Jvm.MethodName) prog_1_method_6_code (5 : Nat) (Option.some Jvm.ClassFile.FieldType.boolean)) ∈ UW := uw_at 290 rfl rfl
theorem uw_291 : (Jvm.Cond.methodLink "StabilitySums" (133 : Nat) ({ cls := "StabilitySums", name := "isPlace", desc := "(J)Z" } : Jvm.MethodName)) ∈ UW := uw_at 291 (by decide +kernel) rfl
theorem uw_292 : (Jvm.Cond.static ({ cls := "StabilitySums", name := "isPlace", desc := "(J)Z" } : Jvm.MethodName)) ∈ UW := uw_at 292 (by decide +kernel) rfl
set_option maxRecDepth 100000 in
theorem uw_293 : (Jvm.Cond.code ({ cls := "StabilitySums", name := "isPlace", desc := "(J)Z" } : Jvm.MethodName) prog_1_method_19_code (2 : Nat) (Option.some Jvm.ClassFile.FieldType.boolean)) ∈ UW := uw_at 293 rfl rfl
theorem uw_294 : (Jvm.Cond.constantLong "StabilitySums" (239 : Nat) (-10000 : Int64)) ∈ UW := uw_at 294 (by decide +kernel) rfl
theorem uw_295 : (Jvm.Cond.methodLink "StabilitySums" (78 : Nat) ({ cls := "StabilitySums", name := "isWithin", desc := "(JJJ)Z" } : Jvm.MethodName)) ∈ UW := uw_at 295 (by decide +kernel) rfl
theorem uw_296 : (Jvm.Cond.static ({ cls := "StabilitySums", name := "isWithin", desc := "(JJJ)Z" } : Jvm.MethodName)) ∈ UW := uw_at 296 (by decide +kernel) rfl
set_option maxRecDepth 100000 in
theorem uw_297 : (Jvm.Cond.code ({ cls := "StabilitySums", name := "isWithin", desc := "(JJJ)Z" } : Jvm.MethodName) prog_1_method_18_code (6 : Nat) (Option.some Jvm.ClassFile.FieldType.boolean)) ∈ UW := uw_at 297 rfl rfl
theorem uw_298 : (Jvm.Cond.methodLink "StabilitySumsLaw" (108 : Nat) ({ cls := "StabilitySums", name := "check", desc := "()I" } : Jvm.MethodName)) ∈ UW := uw_at 298 (by decide +kernel) rfl
theorem uw_299 : (Jvm.Cond.instanceMethod ({ cls := "StabilitySums", name := "check", desc := "()I" } : Jvm.MethodName)) ∈ UW := uw_at 299 (by decide +kernel) rfl
theorem uw_300 : (Jvm.Cond.selects "StabilitySums" ({ cls := "StabilitySums", name := "check", desc := "()I" } : Jvm.MethodName) ({ cls := "StabilitySums", name := "check", desc := "()I" } : Jvm.MethodName)) ∈ UW := uw_at 300 (by decide +kernel) rfl
set_option maxRecDepth 100000 in
theorem uw_301 : (Jvm.Cond.code ({ cls := "StabilitySums", name := "check", desc := "()I" } : Jvm.MethodName) prog_1_method_11_code (1 : Nat) (Option.some Jvm.ClassFile.FieldType.int)) ∈ UW := uw_at 301 rfl rfl
theorem uw_302 : (Jvm.Cond.methodLink "StabilitySums" (155 : Nat) ({ cls := "StabilitySums", name := "gather", desc := "()V" } : Jvm.MethodName)) ∈ UW := uw_at 302 (by decide +kernel) rfl
theorem uw_304 : (Jvm.Cond.instanceMethod ({ cls := "StabilitySums", name := "gather", desc := "()V" } : Jvm.MethodName)) ∈ UW := uw_at 304 (by decide +kernel) rfl
set_option maxRecDepth 100000 in
theorem uw_305 : (Jvm.Cond.code ({ cls := "StabilitySums", name := "gather", desc := "()V" } : Jvm.MethodName) prog_1_method_22_code (2 : Nat) (Option.none : Option Jvm.ClassFile.FieldType)) ∈ UW := uw_at 305 rfl rfl
theorem uw_306 : (Jvm.Cond.methodLink "StabilitySums" (247 : Nat) ({ cls := "StabilitySums$Sums", name := "clear", desc := "()V" } : Jvm.MethodName)) ∈ UW := uw_at 306 (by decide +kernel) rfl
theorem uw_307 : (Jvm.Cond.instanceMethod ({ cls := "StabilitySums$Sums", name := "clear", desc := "()V" } : Jvm.MethodName)) ∈ UW := uw_at 307 (by decide +kernel) rfl
theorem uw_308 : (Jvm.Cond.selects "StabilitySums$Sums" ({ cls := "StabilitySums$Sums", name := "clear", desc := "()V" } : Jvm.MethodName) ({ cls := "StabilitySums$Sums", name := "clear", desc := "()V" } : Jvm.MethodName)) ∈ UW := uw_at 308 (by decide +kernel) rfl
set_option maxRecDepth 100000 in
theorem uw_309 : (Jvm.Cond.code ({ cls := "StabilitySums$Sums", name := "clear", desc := "()V" } : Jvm.MethodName) prog_6_method_2_code (1 : Nat) (Option.none : Option Jvm.ClassFile.FieldType)) ∈ UW := uw_at 309 rfl rfl
theorem uw_310 : (Jvm.Cond.methodLink "StabilitySums" (250 : Nat) ({ cls := "StabilitySums$Cuts", name := "clear", desc := "(I)V" } : Jvm.MethodName)) ∈ UW := uw_at 310 (by decide +kernel) rfl
theorem uw_311 : (Jvm.Cond.instanceMethod ({ cls := "StabilitySums$Cuts", name := "clear", desc := "(I)V" } : Jvm.MethodName)) ∈ UW := uw_at 311 (by decide +kernel) rfl
theorem uw_312 : (Jvm.Cond.selects "StabilitySums$Cuts" ({ cls := "StabilitySums$Cuts", name := "clear", desc := "(I)V" } : Jvm.MethodName) ({ cls := "StabilitySums$Cuts", name := "clear", desc := "(I)V" } : Jvm.MethodName)) ∈ UW := uw_at 312 (by decide +kernel) rfl
set_option maxRecDepth 100000 in
theorem uw_313 : (Jvm.Cond.code ({ cls := "StabilitySums$Cuts", name := "clear", desc := "(I)V" } : Jvm.MethodName) prog_2_method_2_code (3 : Nat) (Option.none : Option Jvm.ClassFile.FieldType)) ∈ UW := uw_at 313 rfl rfl
theorem uw_314 : (Jvm.Cond.methodLink "StabilitySums$Cuts" (25 : Nat) ({ cls := "java/lang/Math", name := "min", desc := "(II)I" } : Jvm.MethodName)) ∈ UW := uw_at 314 (by decide +kernel) rfl
theorem uw_315 : (Jvm.Cond.static ({ cls := "java/lang/Math", name := "min", desc := "(II)I" } : Jvm.MethodName)) ∈ UW := uw_at 315 (by decide +kernel) rfl
set_option maxRecDepth 100000 in
theorem uw_316 : (Jvm.Cond.code ({ cls := "java/lang/Math", name := "min", desc := "(II)I" } : Jvm.MethodName) prog_17_method_69_code (2 : Nat) (Option.some Jvm.ClassFile.FieldType.int)) ∈ UW := uw_at 316 rfl rfl
theorem uw_317 : (Jvm.Cond.methodLink "StabilitySums" (255 : Nat) ({ cls := "StabilitySums", name := "tryMore", desc := "(IJ)V" } : Jvm.MethodName)) ∈ UW := uw_at 317 (by decide +kernel) rfl
theorem uw_319 : (Jvm.Cond.instanceMethod ({ cls := "StabilitySums", name := "tryMore", desc := "(IJ)V" } : Jvm.MethodName)) ∈ UW := uw_at 319 (by decide +kernel) rfl
set_option maxRecDepth 100000 in
theorem uw_320 : (Jvm.Cond.code ({ cls := "StabilitySums", name := "tryMore", desc := "(IJ)V" } : Jvm.MethodName) prog_1_method_23_code (4 : Nat) (Option.none : Option Jvm.ClassFile.FieldType)) ∈ UW := uw_at 320 rfl rfl
theorem uw_321 : (Jvm.Cond.methodLink "StabilitySums" (274 : Nat) ({ cls := "StabilitySums$Sums", name := "add", desc := "(JJJJ)V" } : Jvm.MethodName)) ∈ UW := uw_at 321 (by decide +kernel) rfl
theorem uw_322 : (Jvm.Cond.instanceMethod ({ cls := "StabilitySums$Sums", name := "add", desc := "(JJJJ)V" } : Jvm.MethodName)) ∈ UW := uw_at 322 (by decide +kernel) rfl
theorem uw_323 : (Jvm.Cond.selects "StabilitySums$Sums" ({ cls := "StabilitySums$Sums", name := "add", desc := "(JJJJ)V" } : Jvm.MethodName) ({ cls := "StabilitySums$Sums", name := "add", desc := "(JJJJ)V" } : Jvm.MethodName)) ∈ UW := uw_at 323 (by decide +kernel) rfl
set_option maxRecDepth 100000 in
theorem uw_324 : (Jvm.Cond.code ({ cls := "StabilitySums$Sums", name := "add", desc := "(JJJJ)V" } : Jvm.MethodName) prog_6_method_3_code (9 : Nat) (Option.none : Option Jvm.ClassFile.FieldType)) ∈ UW := uw_at 324 rfl rfl
theorem uw_325 : (Jvm.Cond.methodLink "StabilitySums" (278 : Nat) ({ cls := "StabilitySums$Cuts", name := "add", desc := "(JJ)V" } : Jvm.MethodName)) ∈ UW := uw_at 325 (by decide +kernel) rfl
theorem uw_326 : (Jvm.Cond.instanceMethod ({ cls := "StabilitySums$Cuts", name := "add", desc := "(JJ)V" } : Jvm.MethodName)) ∈ UW := uw_at 326 (by decide +kernel) rfl
theorem uw_327 : (Jvm.Cond.selects "StabilitySums$Cuts" ({ cls := "StabilitySums$Cuts", name := "add", desc := "(JJ)V" } : Jvm.MethodName) ({ cls := "StabilitySums$Cuts", name := "add", desc := "(JJ)V" } : Jvm.MethodName)) ∈ UW := uw_at 327 (by decide +kernel) rfl
set_option maxRecDepth 100000 in
theorem uw_328 : (Jvm.Cond.code ({ cls := "StabilitySums$Cuts", name := "add", desc := "(JJ)V" } : Jvm.MethodName) prog_2_method_3_code (6 : Nat) (Option.none : Option Jvm.ClassFile.FieldType)) ∈ UW := uw_at 328 rfl rfl
theorem uw_329 : (Jvm.Cond.methodLink "StabilitySums" (262 : Nat) ({ cls := "StabilitySums", name := "tryFilling", desc := "(IJ)V" } : Jvm.MethodName)) ∈ UW := uw_at 329 (by decide +kernel) rfl
theorem uw_331 : (Jvm.Cond.instanceMethod ({ cls := "StabilitySums", name := "tryFilling", desc := "(IJ)V" } : Jvm.MethodName)) ∈ UW := uw_at 331 (by decide +kernel) rfl
set_option maxRecDepth 100000 in
theorem uw_332 : (Jvm.Cond.code ({ cls := "StabilitySums", name := "tryFilling", desc := "(IJ)V" } : Jvm.MethodName) prog_1_method_24_code (6 : Nat) (Option.none : Option Jvm.ClassFile.FieldType)) ∈ UW := uw_at 332 rfl rfl
theorem uw_333 : (Jvm.Cond.methodLink "StabilitySums" (284 : Nat) ({ cls := "StabilitySums$Tanks", name := "surfaceOf", desc := "(IJ)J" } : Jvm.MethodName)) ∈ UW := uw_at 333 (by decide +kernel) rfl
theorem uw_334 : (Jvm.Cond.instanceMethod ({ cls := "StabilitySums$Tanks", name := "surfaceOf", desc := "(IJ)J" } : Jvm.MethodName)) ∈ UW := uw_at 334 (by decide +kernel) rfl
theorem uw_335 : (Jvm.Cond.selects "StabilitySums$Tanks" ({ cls := "StabilitySums$Tanks", name := "surfaceOf", desc := "(IJ)J" } : Jvm.MethodName) ({ cls := "StabilitySums$Tanks", name := "surfaceOf", desc := "(IJ)J" } : Jvm.MethodName)) ∈ UW := uw_at 335 (by decide +kernel) rfl
set_option maxRecDepth 100000 in
theorem uw_336 : (Jvm.Cond.code ({ cls := "StabilitySums$Tanks", name := "surfaceOf", desc := "(IJ)J" } : Jvm.MethodName) prog_8_method_4_code (4 : Nat) (Option.some Jvm.ClassFile.FieldType.long)) ∈ UW := uw_at 336 rfl rfl
theorem uw_337 : (Jvm.Cond.methodLink "StabilitySums$Tanks" (40 : Nat) ({ cls := "StabilitySums$Tanks", name := "isSlack", desc := "(IJ)Z" } : Jvm.MethodName)) ∈ UW := uw_at 337 (by decide +kernel) rfl
theorem uw_338 : (Jvm.Cond.instanceMethod ({ cls := "StabilitySums$Tanks", name := "isSlack", desc := "(IJ)Z" } : Jvm.MethodName)) ∈ UW := uw_at 338 (by decide +kernel) rfl
theorem uw_339 : (Jvm.Cond.selects "StabilitySums$Tanks" ({ cls := "StabilitySums$Tanks", name := "isSlack", desc := "(IJ)Z" } : Jvm.MethodName) ({ cls := "StabilitySums$Tanks", name := "isSlack", desc := "(IJ)Z" } : Jvm.MethodName)) ∈ UW := uw_at 339 (by decide +kernel) rfl
set_option maxRecDepth 100000 in
theorem uw_340 : (Jvm.Cond.code ({ cls := "StabilitySums$Tanks", name := "isSlack", desc := "(IJ)Z" } : Jvm.MethodName) prog_8_method_3_code (4 : Nat) (Option.some Jvm.ClassFile.FieldType.boolean)) ∈ UW := uw_at 340 rfl rfl
theorem uw_341 : (Jvm.Cond.methodLink "StabilitySums" (209 : Nat) ({ cls := "StabilitySums", name := "leastBroken", desc := "()I" } : Jvm.MethodName)) ∈ UW := uw_at 341 (by decide +kernel) rfl
theorem uw_343 : (Jvm.Cond.instanceMethod ({ cls := "StabilitySums", name := "leastBroken", desc := "()I" } : Jvm.MethodName)) ∈ UW := uw_at 343 (by decide +kernel) rfl
set_option maxRecDepth 100000 in
theorem uw_344 : (Jvm.Cond.code ({ cls := "StabilitySums", name := "leastBroken", desc := "()I" } : Jvm.MethodName) prog_1_method_30_code (2 : Nat) (Option.some Jvm.ClassFile.FieldType.int)) ∈ UW := uw_at 344 rfl rfl
theorem uw_345 : (Jvm.Cond.methodLink "StabilitySums" (329 : Nat) ({ cls := "StabilitySums", name := "breaks", desc := "(I)Z" } : Jvm.MethodName)) ∈ UW := uw_at 345 (by decide +kernel) rfl
theorem uw_347 : (Jvm.Cond.instanceMethod ({ cls := "StabilitySums", name := "breaks", desc := "(I)Z" } : Jvm.MethodName)) ∈ UW := uw_at 347 (by decide +kernel) rfl
set_option maxRecDepth 100000 in
theorem uw_348 : (Jvm.Cond.code ({ cls := "StabilitySums", name := "breaks", desc := "(I)Z" } : Jvm.MethodName) prog_1_method_31_code (5 : Nat) (Option.some Jvm.ClassFile.FieldType.boolean)) ∈ UW := uw_at 348 rfl rfl
theorem uw_349 : (Jvm.Cond.methodLink "StabilitySums" (188 : Nat) ({ cls := "StabilitySums", name := "shearAt", desc := "(I)J" } : Jvm.MethodName)) ∈ UW := uw_at 349 (by decide +kernel) rfl
theorem uw_351 : (Jvm.Cond.instanceMethod ({ cls := "StabilitySums", name := "shearAt", desc := "(I)J" } : Jvm.MethodName)) ∈ UW := uw_at 351 (by decide +kernel) rfl
set_option maxRecDepth 100000 in
theorem uw_352 : (Jvm.Cond.code ({ cls := "StabilitySums", name := "shearAt", desc := "(I)J" } : Jvm.MethodName) prog_1_method_28_code (8 : Nat) (Option.some Jvm.ClassFile.FieldType.long)) ∈ UW := uw_at 352 rfl rfl
theorem uw_353 : (Jvm.Cond.methodLink "StabilitySums" (323 : Nat) ({ cls := "StabilitySums", name := "divideDown", desc := "(JJ)J" } : Jvm.MethodName)) ∈ UW := uw_at 353 (by decide +kernel) rfl
theorem uw_354 : (Jvm.Cond.static ({ cls := "StabilitySums", name := "divideDown", desc := "(JJ)J" } : Jvm.MethodName)) ∈ UW := uw_at 354 (by decide +kernel) rfl
set_option maxRecDepth 100000 in
theorem uw_355 : (Jvm.Cond.code ({ cls := "StabilitySums", name := "divideDown", desc := "(JJ)J" } : Jvm.MethodName) prog_1_method_21_code (4 : Nat) (Option.some Jvm.ClassFile.FieldType.long)) ∈ UW := uw_at 355 rfl rfl
theorem uw_356 : (Jvm.Cond.methodLink "StabilitySums" (241 : Nat) ({ cls := "java/lang/Math", name := "floorDiv", desc := "(JJ)J" } : Jvm.MethodName)) ∈ UW := uw_at 356 (by decide +kernel) rfl
theorem uw_357 : (Jvm.Cond.static ({ cls := "java/lang/Math", name := "floorDiv", desc := "(JJ)J" } : Jvm.MethodName)) ∈ UW := uw_at 357 (by decide +kernel) rfl
set_option maxRecDepth 100000 in
theorem uw_358 : (Jvm.Cond.code ({ cls := "java/lang/Math", name := "floorDiv", desc := "(JJ)J" } : Jvm.MethodName) prog_17_method_49_code (6 : Nat) (Option.some Jvm.ClassFile.FieldType.long)) ∈ UW := uw_at 358 rfl rfl
theorem uw_359 : (Jvm.Cond.methodLink "StabilitySums" (192 : Nat) ({ cls := "StabilitySums", name := "bendingAt", desc := "(I)J" } : Jvm.MethodName)) ∈ UW := uw_at 359 (by decide +kernel) rfl
theorem uw_361 : (Jvm.Cond.instanceMethod ({ cls := "StabilitySums", name := "bendingAt", desc := "(I)J" } : Jvm.MethodName)) ∈ UW := uw_at 361 (by decide +kernel) rfl
set_option maxRecDepth 100000 in
theorem uw_362 : (Jvm.Cond.code ({ cls := "StabilitySums", name := "bendingAt", desc := "(I)J" } : Jvm.MethodName) prog_1_method_29_code (10 : Nat) (Option.some Jvm.ClassFile.FieldType.long)) ∈ UW := uw_at 362 rfl rfl
theorem uw_363 : (Jvm.Cond.constantLong "StabilitySums" (151 : Nat) (2 : Int64)) ∈ UW := uw_at 363 (by decide +kernel) rfl
theorem uw_364 : (Jvm.Cond.methodLink "StabilitySums" (335 : Nat) ({ cls := "StabilitySums$Limits", name := "allows", desc := "(IJJ)Z" } : Jvm.MethodName)) ∈ UW := uw_at 364 (by decide +kernel) rfl
theorem uw_365 : (Jvm.Cond.instanceMethod ({ cls := "StabilitySums$Limits", name := "allows", desc := "(IJJ)Z" } : Jvm.MethodName)) ∈ UW := uw_at 365 (by decide +kernel) rfl
theorem uw_366 : (Jvm.Cond.selects "StabilitySums$Limits" ({ cls := "StabilitySums$Limits", name := "allows", desc := "(IJJ)Z" } : Jvm.MethodName) ({ cls := "StabilitySums$Limits", name := "allows", desc := "(IJJ)Z" } : Jvm.MethodName)) ∈ UW := uw_at 366 (by decide +kernel) rfl
set_option maxRecDepth 100000 in
theorem uw_367 : (Jvm.Cond.code ({ cls := "StabilitySums$Limits", name := "allows", desc := "(IJJ)Z" } : Jvm.MethodName) prog_4_method_3_code (6 : Nat) (Option.some Jvm.ClassFile.FieldType.boolean)) ∈ UW := uw_at 367 rfl rfl
theorem uw_368 : (Jvm.Cond.methodLink "StabilitySums" (158 : Nat) ({ cls := "StabilitySums", name := "isWithoutAnswer", desc := "(I)Z" } : Jvm.MethodName)) ∈ UW := uw_at 368 (by decide +kernel) rfl
theorem uw_370 : (Jvm.Cond.instanceMethod ({ cls := "StabilitySums", name := "isWithoutAnswer", desc := "(I)Z" } : Jvm.MethodName)) ∈ UW := uw_at 370 (by decide +kernel) rfl
set_option maxRecDepth 100000 in
theorem uw_371 : (Jvm.Cond.code ({ cls := "StabilitySums", name := "isWithoutAnswer", desc := "(I)Z" } : Jvm.MethodName) prog_1_method_26_code (2 : Nat) (Option.some Jvm.ClassFile.FieldType.boolean)) ∈ UW := uw_at 371 rfl rfl
theorem uw_372 : (Jvm.Cond.methodLink "StabilitySums" (167 : Nat) ({ cls := "StabilitySums", name := "work", desc := "(I)V" } : Jvm.MethodName)) ∈ UW := uw_at 372 (by decide +kernel) rfl
theorem uw_374 : (Jvm.Cond.instanceMethod ({ cls := "StabilitySums", name := "work", desc := "(I)V" } : Jvm.MethodName)) ∈ UW := uw_at 374 (by decide +kernel) rfl
set_option maxRecDepth 100000 in
theorem uw_375 : (Jvm.Cond.code ({ cls := "StabilitySums", name := "work", desc := "(I)V" } : Jvm.MethodName) prog_1_method_27_code (4 : Nat) (Option.none : Option Jvm.ClassFile.FieldType)) ∈ UW := uw_at 375 rfl rfl
theorem uw_376 : (Jvm.Cond.methodLink "StabilitySums" (305 : Nat) ({ cls := "StabilitySums$Fraction", name := "put", desc := "(JJ)V" } : Jvm.MethodName)) ∈ UW := uw_at 376 (by decide +kernel) rfl
theorem uw_377 : (Jvm.Cond.instanceMethod ({ cls := "StabilitySums$Fraction", name := "put", desc := "(JJ)V" } : Jvm.MethodName)) ∈ UW := uw_at 377 (by decide +kernel) rfl
theorem uw_378 : (Jvm.Cond.selects "StabilitySums$Fraction" ({ cls := "StabilitySums$Fraction", name := "put", desc := "(JJ)V" } : Jvm.MethodName) ({ cls := "StabilitySums$Fraction", name := "put", desc := "(JJ)V" } : Jvm.MethodName)) ∈ UW := uw_at 378 (by decide +kernel) rfl
set_option maxRecDepth 100000 in
theorem uw_379 : (Jvm.Cond.code ({ cls := "StabilitySums$Fraction", name := "put", desc := "(JJ)V" } : Jvm.MethodName) prog_3_method_2_code (5 : Nat) (Option.none : Option Jvm.ClassFile.FieldType)) ∈ UW := uw_at 379 rfl rfl
theorem uw_380 : (Jvm.Cond.methodLink "StabilitySums" (315 : Nat) ({ cls := "StabilitySums$Table", name := "read", desc := "([JJLStabilitySums$Fraction;)V" } : Jvm.MethodName)) ∈ UW := uw_at 380 (by decide +kernel) rfl
theorem uw_381 : (Jvm.Cond.instanceMethod ({ cls := "StabilitySums$Table", name := "read", desc := "([JJLStabilitySums$Fraction;)V" } : Jvm.MethodName)) ∈ UW := uw_at 381 (by decide +kernel) rfl
theorem uw_382 : (Jvm.Cond.selects "StabilitySums$Table" ({ cls := "StabilitySums$Table", name := "read", desc := "([JJLStabilitySums$Fraction;)V" } : Jvm.MethodName) ({ cls := "StabilitySums$Table", name := "read", desc := "([JJLStabilitySums$Fraction;)V" } : Jvm.MethodName)) ∈ UW := uw_at 382 (by decide +kernel) rfl
set_option maxRecDepth 100000 in
theorem uw_383 : (Jvm.Cond.code ({ cls := "StabilitySums$Table", name := "read", desc := "([JJLStabilitySums$Fraction;)V" } : Jvm.MethodName) prog_7_method_4_code (12 : Nat) (Option.none : Option Jvm.ClassFile.FieldType)) ∈ UW := uw_at 383 rfl rfl
theorem uw_384 : (Jvm.Cond.methodLink "StabilitySums$Table" (25 : Nat) ({ cls := "StabilitySums$Fraction", name := "put", desc := "(JJ)V" } : Jvm.MethodName)) ∈ UW := uw_at 384 (by decide +kernel) rfl
theorem uw_385 : (Jvm.Cond.methodLink "StabilitySums" (171 : Nat) ({ cls := "StabilitySums$Fraction", name := "floor", desc := "()J" } : Jvm.MethodName)) ∈ UW := uw_at 385 (by decide +kernel) rfl
theorem uw_386 : (Jvm.Cond.instanceMethod ({ cls := "StabilitySums$Fraction", name := "floor", desc := "()J" } : Jvm.MethodName)) ∈ UW := uw_at 386 (by decide +kernel) rfl
theorem uw_387 : (Jvm.Cond.selects "StabilitySums$Fraction" ({ cls := "StabilitySums$Fraction", name := "floor", desc := "()J" } : Jvm.MethodName) ({ cls := "StabilitySums$Fraction", name := "floor", desc := "()J" } : Jvm.MethodName)) ∈ UW := uw_at 387 (by decide +kernel) rfl
set_option maxRecDepth 100000 in
theorem uw_388 : (Jvm.Cond.code ({ cls := "StabilitySums$Fraction", name := "floor", desc := "()J" } : Jvm.MethodName) prog_3_method_3_code (1 : Nat) (Option.some Jvm.ClassFile.FieldType.long)) ∈ UW := uw_at 388 rfl rfl
theorem uw_390 : (Jvm.Cond.methodLink "StabilitySums" (339 : Nat) ({ cls := "StabilitySums$Fraction", name := "ceiling", desc := "()J" } : Jvm.MethodName)) ∈ UW := uw_at 390 (by decide +kernel) rfl
theorem uw_391 : (Jvm.Cond.instanceMethod ({ cls := "StabilitySums$Fraction", name := "ceiling", desc := "()J" } : Jvm.MethodName)) ∈ UW := uw_at 391 (by decide +kernel) rfl
theorem uw_392 : (Jvm.Cond.selects "StabilitySums$Fraction" ({ cls := "StabilitySums$Fraction", name := "ceiling", desc := "()J" } : Jvm.MethodName) ({ cls := "StabilitySums$Fraction", name := "ceiling", desc := "()J" } : Jvm.MethodName)) ∈ UW := uw_at 392 (by decide +kernel) rfl
set_option maxRecDepth 100000 in
theorem uw_393 : (Jvm.Cond.code ({ cls := "StabilitySums$Fraction", name := "ceiling", desc := "()J" } : Jvm.MethodName) prog_3_method_4_code (1 : Nat) (Option.some Jvm.ClassFile.FieldType.long)) ∈ UW := uw_at 393 rfl rfl
theorem uw_394 : (Jvm.Cond.methodLink "StabilitySumsLaw" (112 : Nat) ({ cls := "StabilitySums", name := "ballast", desc := "()J" } : Jvm.MethodName)) ∈ UW := uw_at 394 (by decide +kernel) rfl
theorem uw_395 : (Jvm.Cond.instanceMethod ({ cls := "StabilitySums", name := "ballast", desc := "()J" } : Jvm.MethodName)) ∈ UW := uw_at 395 (by decide +kernel) rfl
theorem uw_396 : (Jvm.Cond.selects "StabilitySums" ({ cls := "StabilitySums", name := "ballast", desc := "()J" } : Jvm.MethodName) ({ cls := "StabilitySums", name := "ballast", desc := "()J" } : Jvm.MethodName)) ∈ UW := uw_at 396 (by decide +kernel) rfl
set_option maxRecDepth 100000 in
theorem uw_397 : (Jvm.Cond.code ({ cls := "StabilitySums", name := "ballast", desc := "()J" } : Jvm.MethodName) prog_1_method_12_code (1 : Nat) (Option.some Jvm.ClassFile.FieldType.long)) ∈ UW := uw_at 397 rfl rfl
theorem uw_398 : (Jvm.Cond.methodLink "StabilitySums" (213 : Nat) ({ cls := "StabilitySums", name := "findPumping", desc := "()J" } : Jvm.MethodName)) ∈ UW := uw_at 398 (by decide +kernel) rfl
theorem uw_400 : (Jvm.Cond.instanceMethod ({ cls := "StabilitySums", name := "findPumping", desc := "()J" } : Jvm.MethodName)) ∈ UW := uw_at 400 (by decide +kernel) rfl
set_option maxRecDepth 100000 in
theorem uw_401 : (Jvm.Cond.code ({ cls := "StabilitySums", name := "findPumping", desc := "()J" } : Jvm.MethodName) prog_1_method_32_code (7 : Nat) (Option.some Jvm.ClassFile.FieldType.long)) ∈ UW := uw_at 401 rfl rfl
theorem uw_402 : (Jvm.Cond.constantLong "StabilitySums" (216 : Nat) (-1 : Int64)) ∈ UW := uw_at 402 (by decide +kernel) rfl
theorem uw_403 : (Jvm.Cond.methodLink "StabilitySums" (342 : Nat) ({ cls := "StabilitySums", name := "trySetting", desc := "(I)V" } : Jvm.MethodName)) ∈ UW := uw_at 403 (by decide +kernel) rfl
theorem uw_405 : (Jvm.Cond.instanceMethod ({ cls := "StabilitySums", name := "trySetting", desc := "(I)V" } : Jvm.MethodName)) ∈ UW := uw_at 405 (by decide +kernel) rfl
set_option maxRecDepth 100000 in
theorem uw_406 : (Jvm.Cond.code ({ cls := "StabilitySums", name := "trySetting", desc := "(I)V" } : Jvm.MethodName) prog_1_method_33_code (4 : Nat) (Option.none : Option Jvm.ClassFile.FieldType)) ∈ UW := uw_at 406 rfl rfl
theorem uw_407 : (Jvm.Cond.constantLong "StabilitySums" (105 : Nat) (4 : Int64)) ∈ UW := uw_at 407 (by decide +kernel) rfl
theorem uw_408 : (Jvm.Cond.methodLink "StabilitySums" (345 : Nat) ({ cls := "StabilitySums$Tanks", name := "workOfTried", desc := "()J" } : Jvm.MethodName)) ∈ UW := uw_at 408 (by decide +kernel) rfl
theorem uw_409 : (Jvm.Cond.instanceMethod ({ cls := "StabilitySums$Tanks", name := "workOfTried", desc := "()J" } : Jvm.MethodName)) ∈ UW := uw_at 409 (by decide +kernel) rfl
theorem uw_410 : (Jvm.Cond.selects "StabilitySums$Tanks" ({ cls := "StabilitySums$Tanks", name := "workOfTried", desc := "()J" } : Jvm.MethodName) ({ cls := "StabilitySums$Tanks", name := "workOfTried", desc := "()J" } : Jvm.MethodName)) ∈ UW := uw_at 410 (by decide +kernel) rfl
set_option maxRecDepth 100000 in
theorem uw_411 : (Jvm.Cond.code ({ cls := "StabilitySums$Tanks", name := "workOfTried", desc := "()J" } : Jvm.MethodName) prog_8_method_6_code (4 : Nat) (Option.some Jvm.ClassFile.FieldType.long)) ∈ UW := uw_at 411 rfl rfl
theorem uw_412 : (Jvm.Cond.methodLink "StabilitySums$Tanks" (44 : Nat) ({ cls := "java/lang/Math", name := "abs", desc := "(J)J" } : Jvm.MethodName)) ∈ UW := uw_at 412 (by decide +kernel) rfl
theorem uw_413 : (Jvm.Cond.static ({ cls := "java/lang/Math", name := "abs", desc := "(J)J" } : Jvm.MethodName)) ∈ UW := uw_at 413 (by decide +kernel) rfl
set_option maxRecDepth 100000 in
theorem uw_414 : (Jvm.Cond.code ({ cls := "java/lang/Math", name := "abs", desc := "(J)J" } : Jvm.MethodName) prog_17_method_61_code (2 : Nat) (Option.some Jvm.ClassFile.FieldType.long)) ∈ UW := uw_at 414 rfl rfl
theorem uw_415 : (Jvm.Cond.methodLink "StabilitySums" (348 : Nat) ({ cls := "StabilitySums$Tanks", name := "keepTried", desc := "()V" } : Jvm.MethodName)) ∈ UW := uw_at 415 (by decide +kernel) rfl
theorem uw_416 : (Jvm.Cond.instanceMethod ({ cls := "StabilitySums$Tanks", name := "keepTried", desc := "()V" } : Jvm.MethodName)) ∈ UW := uw_at 416 (by decide +kernel) rfl
theorem uw_417 : (Jvm.Cond.selects "StabilitySums$Tanks" ({ cls := "StabilitySums$Tanks", name := "keepTried", desc := "()V" } : Jvm.MethodName) ({ cls := "StabilitySums$Tanks", name := "keepTried", desc := "()V" } : Jvm.MethodName)) ∈ UW := uw_at 417 (by decide +kernel) rfl
set_option maxRecDepth 100000 in
theorem uw_418 : (Jvm.Cond.code ({ cls := "StabilitySums$Tanks", name := "keepTried", desc := "()V" } : Jvm.MethodName) prog_8_method_7_code (2 : Nat) (Option.none : Option Jvm.ClassFile.FieldType)) ∈ UW := uw_at 418 rfl rfl
theorem uw_419 : (Jvm.Cond.methodLink "StabilitySumsLaw" (128 : Nat) ({ cls := "StabilitySums", name := "broken", desc := "()I" } : Jvm.MethodName)) ∈ UW := uw_at 419 (by decide +kernel) rfl
theorem uw_420 : (Jvm.Cond.instanceMethod ({ cls := "StabilitySums", name := "broken", desc := "()I" } : Jvm.MethodName)) ∈ UW := uw_at 420 (by decide +kernel) rfl
theorem uw_421 : (Jvm.Cond.selects "StabilitySums" ({ cls := "StabilitySums", name := "broken", desc := "()I" } : Jvm.MethodName) ({ cls := "StabilitySums", name := "broken", desc := "()I" } : Jvm.MethodName)) ∈ UW := uw_at 421 (by decide +kernel) rfl
set_option maxRecDepth 100000 in
theorem uw_422 : (Jvm.Cond.code ({ cls := "StabilitySums", name := "broken", desc := "()I" } : Jvm.MethodName) prog_1_method_16_code (2 : Nat) (Option.some Jvm.ClassFile.FieldType.int)) ∈ UW := uw_at 422 rfl rfl
theorem uw_423 : (Jvm.Cond.methodLink "StabilitySums" (233 : Nat) ({ cls := "StabilitySums", name := "tryStep", desc := "(I)V" } : Jvm.MethodName)) ∈ UW := uw_at 423 (by decide +kernel) rfl
theorem uw_425 : (Jvm.Cond.instanceMethod ({ cls := "StabilitySums", name := "tryStep", desc := "(I)V" } : Jvm.MethodName)) ∈ UW := uw_at 425 (by decide +kernel) rfl
set_option maxRecDepth 100000 in
theorem uw_426 : (Jvm.Cond.code ({ cls := "StabilitySums", name := "tryStep", desc := "(I)V" } : Jvm.MethodName) prog_1_method_25_code (2 : Nat) (Option.none : Option Jvm.ClassFile.FieldType)) ∈ UW := uw_at 426 rfl rfl
theorem uw_427 : (Jvm.Cond.methodLink "StabilitySumsLaw" (132 : Nat) ({ cls := "StabilitySums", name := "count", desc := "(I)I" } : Jvm.MethodName)) ∈ UW := uw_at 427 (by decide +kernel) rfl
theorem uw_428 : (Jvm.Cond.instanceMethod ({ cls := "StabilitySums", name := "count", desc := "(I)I" } : Jvm.MethodName)) ∈ UW := uw_at 428 (by decide +kernel) rfl
theorem uw_429 : (Jvm.Cond.selects "StabilitySums" ({ cls := "StabilitySums", name := "count", desc := "(I)I" } : Jvm.MethodName) ({ cls := "StabilitySums", name := "count", desc := "(I)I" } : Jvm.MethodName)) ∈ UW := uw_at 429 (by decide +kernel) rfl
set_option maxRecDepth 100000 in
theorem uw_430 : (Jvm.Cond.code ({ cls := "StabilitySums", name := "count", desc := "(I)I" } : Jvm.MethodName) prog_1_method_17_code (2 : Nat) (Option.some Jvm.ClassFile.FieldType.int)) ∈ UW := uw_at 430 rfl rfl
theorem uw_431 : (Jvm.Cond.methodLink "StabilitySums" (236 : Nat) ({ cls := "StabilitySums$Tanks", name := "countSlack", desc := "()I" } : Jvm.MethodName)) ∈ UW := uw_at 431 (by decide +kernel) rfl
theorem uw_432 : (Jvm.Cond.instanceMethod ({ cls := "StabilitySums$Tanks", name := "countSlack", desc := "()I" } : Jvm.MethodName)) ∈ UW := uw_at 432 (by decide +kernel) rfl
theorem uw_433 : (Jvm.Cond.selects "StabilitySums$Tanks" ({ cls := "StabilitySums$Tanks", name := "countSlack", desc := "()I" } : Jvm.MethodName) ({ cls := "StabilitySums$Tanks", name := "countSlack", desc := "()I" } : Jvm.MethodName)) ∈ UW := uw_at 433 (by decide +kernel) rfl
set_option maxRecDepth 100000 in
theorem uw_434 : (Jvm.Cond.code ({ cls := "StabilitySums$Tanks", name := "countSlack", desc := "()I" } : Jvm.MethodName) prog_8_method_5_code (3 : Nat) (Option.some Jvm.ClassFile.FieldType.int)) ∈ UW := uw_at 434 rfl rfl
theorem uw_435 : (Jvm.Cond.methodLink "StabilitySumsLaw" (66 : Nat) ({ cls := "StabilitySumsLaw", name := "weight", desc := "(LStabilitySums;JJJJ[J)I" } : Jvm.MethodName)) ∈ UW := uw_at 435 (by decide +kernel) rfl
theorem uw_436 : (Jvm.Cond.static ({ cls := "StabilitySumsLaw", name := "weight", desc := "(LStabilitySums;JJJJ[J)I" } : Jvm.MethodName)) ∈ UW := uw_at 436 (by decide +kernel) rfl
set_option maxRecDepth 100000 in
theorem uw_437 : (Jvm.Cond.codeWith ({ cls := "StabilitySumsLaw", name := "weight", desc := "(LStabilitySums;JJJJ[J)I" } : Jvm.MethodName) method_3_code (11 : Nat) (Option.some Jvm.ClassFile.FieldType.int) [((0 : Nat), (15 : Nat), (18 : Nat), (13 : Nat)), ((0 : Nat), (15 : Nat), (22 : Nat), (15 : Nat))]) ∈ UW := uw_at 437 rfl rfl
theorem uw_438 : (Jvm.Cond.classLink "StabilitySumsLaw" (13 : Nat) "java/lang/IllegalArgumentException") ∈ UW := uw_at 438 (by decide +kernel) rfl
theorem uw_439 : (Jvm.Cond.classLink "StabilitySumsLaw" (15 : Nat) "java/lang/IllegalStateException") ∈ UW := uw_at 439 (by decide +kernel) rfl
theorem uw_440 : (Jvm.Cond.methodLink "StabilitySumsLaw" (7 : Nat) ({ cls := "StabilitySums", name := "weight", desc := "(JJJJ)I" } : Jvm.MethodName)) ∈ UW := uw_at 440 (by decide +kernel) rfl
theorem uw_441 : (Jvm.Cond.instanceMethod ({ cls := "StabilitySums", name := "weight", desc := "(JJJJ)I" } : Jvm.MethodName)) ∈ UW := uw_at 441 (by decide +kernel) rfl
theorem uw_442 : (Jvm.Cond.selects "StabilitySums" ({ cls := "StabilitySums", name := "weight", desc := "(JJJJ)I" } : Jvm.MethodName) ({ cls := "StabilitySums", name := "weight", desc := "(JJJJ)I" } : Jvm.MethodName)) ∈ UW := uw_at 442 (by decide +kernel) rfl
set_option maxRecDepth 100000 in
theorem uw_443 : (Jvm.Cond.code ({ cls := "StabilitySums", name := "weight", desc := "(JJJJ)I" } : Jvm.MethodName) prog_1_method_2_code (9 : Nat) (Option.some Jvm.ClassFile.FieldType.int)) ∈ UW := uw_at 443 rfl rfl
theorem uw_444 : (Jvm.Cond.constantLong "StabilitySums" (74 : Nat) (-100000 : Int64)) ∈ UW := uw_at 444 (by decide +kernel) rfl
theorem uw_445 : (Jvm.Cond.constantLong "StabilitySums" (76 : Nat) (100000 : Int64)) ∈ UW := uw_at 445 (by decide +kernel) rfl
theorem uw_446 : (Jvm.Cond.methodLink "StabilitySums" (82 : Nat) ({ cls := "StabilitySums", name := "arePlaces", desc := "(JJJ)Z" } : Jvm.MethodName)) ∈ UW := uw_at 446 (by decide +kernel) rfl
theorem uw_447 : (Jvm.Cond.static ({ cls := "StabilitySums", name := "arePlaces", desc := "(JJJ)Z" } : Jvm.MethodName)) ∈ UW := uw_at 447 (by decide +kernel) rfl
set_option maxRecDepth 100000 in
theorem uw_448 : (Jvm.Cond.code ({ cls := "StabilitySums", name := "arePlaces", desc := "(JJJ)Z" } : Jvm.MethodName) prog_1_method_20_code (6 : Nat) (Option.some Jvm.ClassFile.FieldType.boolean)) ∈ UW := uw_at 448 rfl rfl
theorem uw_449 : (Jvm.Cond.classLink "StabilitySums" (85 : Nat) "java/lang/IllegalArgumentException") ∈ UW := uw_at 449 (by decide +kernel) rfl
theorem uw_450 : (Jvm.Cond.instantiable "java/lang/IllegalArgumentException" (6 : Nat)) ∈ UW := uw_at 450 (by decide +kernel) rfl
theorem uw_458 : (Jvm.Cond.selects "java/lang/IllegalArgumentException" ({ cls := "java/lang/Throwable", name := "fillInStackTrace", desc := "(I)Ljava/lang/Throwable;" } : Jvm.MethodName) ({ cls := "java/lang/Throwable", name := "fillInStackTrace", desc := "(I)Ljava/lang/Throwable;" } : Jvm.MethodName)) ∈ UW := uw_at 458 (by decide +kernel) rfl
theorem uw_459 : (Jvm.Cond.selects "java/lang/IllegalArgumentException" ({ cls := "java/lang/Throwable", name := "fillInStackTrace", desc := "()Ljava/lang/Throwable;" } : Jvm.MethodName) ({ cls := "java/lang/Throwable", name := "fillInStackTrace", desc := "()Ljava/lang/Throwable;" } : Jvm.MethodName)) ∈ UW := uw_at 459 (by decide +kernel) rfl
theorem uw_460 : (Jvm.Cond.lays "java/lang/IllegalArgumentException" "java/lang/Throwable" "cause" "Ljava/lang/Throwable;") ∈ UW := uw_at 460 (by decide +kernel) rfl
theorem uw_461 : (Jvm.Cond.lays "java/lang/Throwable" "java/lang/Throwable" "cause" "Ljava/lang/Throwable;") ∈ UW := uw_at 461 (by decide +kernel) rfl
theorem uw_462 : (Jvm.Cond.lays "java/lang/IllegalArgumentException" "java/lang/Throwable" "stackTrace" "[Ljava/lang/StackTraceElement;") ∈ UW := uw_at 462 (by decide +kernel) rfl
theorem uw_463 : (Jvm.Cond.lays "java/lang/Throwable" "java/lang/Throwable" "stackTrace" "[Ljava/lang/StackTraceElement;") ∈ UW := uw_at 463 (by decide +kernel) rfl
theorem uw_464 : (Jvm.Cond.lays "java/lang/IllegalArgumentException" "java/lang/Throwable" "suppressedExceptions" "Ljava/util/List;") ∈ UW := uw_at 464 (by decide +kernel) rfl
theorem uw_465 : (Jvm.Cond.lays "java/lang/Throwable" "java/lang/Throwable" "suppressedExceptions" "Ljava/util/List;") ∈ UW := uw_at 465 (by decide +kernel) rfl
theorem uw_466 : (Jvm.Cond.lays "java/lang/IllegalArgumentException" "java/lang/Throwable" "detailMessage" "Ljava/lang/String;") ∈ UW := uw_at 466 (by decide +kernel) rfl
theorem uw_467 : (Jvm.Cond.lays "java/lang/Throwable" "java/lang/Throwable" "detailMessage" "Ljava/lang/String;") ∈ UW := uw_at 467 (by decide +kernel) rfl
theorem uw_468 : (Jvm.Cond.lays "java/lang/IllegalArgumentException" "java/lang/Throwable" "backtrace" "Ljava/lang/Object;") ∈ UW := uw_at 468 (by decide +kernel) rfl
theorem uw_469 : (Jvm.Cond.lays "java/lang/Throwable" "java/lang/Throwable" "backtrace" "Ljava/lang/Object;") ∈ UW := uw_at 469 (by decide +kernel) rfl
theorem uw_470 : (Jvm.Cond.fieldLink "java/lang/Throwable" (198 : Nat) "java/lang/Throwable" "backtrace" "Ljava/lang/Object;") ∈ UW := uw_at 470 (by decide +kernel) rfl
theorem uw_472 : (Jvm.Cond.instanceMethod ({ cls := "java/lang/Throwable", name := "<init>", desc := "()V" } : Jvm.MethodName)) ∈ UW := uw_at 472 (by decide +kernel) rfl
set_option maxRecDepth 100000 in
theorem uw_473 : (Jvm.Cond.code ({ cls := "java/lang/Throwable", name := "<init>", desc := "()V" } : Jvm.MethodName) prog_20_method_1_code (1 : Nat) (Option.none : Option Jvm.ClassFile.FieldType)) ∈ UW := uw_at 473 rfl rfl
theorem uw_474 : (Jvm.Cond.methodLink "java/lang/Throwable" (1 : Nat) ({ cls := "java/lang/Object", name := "<init>", desc := "()V" } : Jvm.MethodName)) ∈ UW := uw_at 474 (by decide +kernel) rfl
theorem uw_475 : (Jvm.Cond.fieldLink "java/lang/Throwable" (13 : Nat) "java/lang/Throwable" "UNASSIGNED_STACK" "[Ljava/lang/StackTraceElement;") ∈ UW := uw_at 475 (by decide +kernel) rfl
theorem uw_477 : (Jvm.Cond.fieldLink "java/lang/Throwable" (20 : Nat) "java/lang/Throwable" "SUPPRESSED_SENTINEL" "Ljava/util/List;") ∈ UW := uw_at 477 (by decide +kernel) rfl
theorem uw_479 : (Jvm.Cond.methodLink "java/lang/Throwable" (27 : Nat) ({ cls := "java/lang/Throwable", name := "fillInStackTrace", desc := "()Ljava/lang/Throwable;" } : Jvm.MethodName)) ∈ UW := uw_at 479 (by decide +kernel) rfl
theorem uw_480 : (Jvm.Cond.instanceMethod ({ cls := "java/lang/Throwable", name := "fillInStackTrace", desc := "()Ljava/lang/Throwable;" } : Jvm.MethodName)) ∈ UW := uw_at 480 (by decide +kernel) rfl
theorem uw_482 : (Jvm.Cond.selects "java/lang/ArithmeticException" ({ cls := "java/lang/Throwable", name := "fillInStackTrace", desc := "()Ljava/lang/Throwable;" } : Jvm.MethodName) ({ cls := "java/lang/Throwable", name := "fillInStackTrace", desc := "()Ljava/lang/Throwable;" } : Jvm.MethodName)) ∈ UW := uw_at 482 (by decide +kernel) rfl
theorem uw_483 : (Jvm.Cond.selects "java/lang/IllegalStateException" ({ cls := "java/lang/Throwable", name := "fillInStackTrace", desc := "()Ljava/lang/Throwable;" } : Jvm.MethodName) ({ cls := "java/lang/Throwable", name := "fillInStackTrace", desc := "()Ljava/lang/Throwable;" } : Jvm.MethodName)) ∈ UW := uw_at 483 (by decide +kernel) rfl
theorem uw_484 : (Jvm.Cond.selects "java/lang/IndexOutOfBoundsException" ({ cls := "java/lang/Throwable", name := "fillInStackTrace", desc := "()Ljava/lang/Throwable;" } : Jvm.MethodName) ({ cls := "java/lang/Throwable", name := "fillInStackTrace", desc := "()Ljava/lang/Throwable;" } : Jvm.MethodName)) ∈ UW := uw_at 484 (by decide +kernel) rfl
theorem uw_486 : (Jvm.Cond.methodLink "java/lang/Throwable" (202 : Nat) ({ cls := "java/lang/Throwable", name := "fillInStackTrace", desc := "(I)Ljava/lang/Throwable;" } : Jvm.MethodName)) ∈ UW := uw_at 486 (by decide +kernel) rfl
theorem uw_488 : (Jvm.Cond.instanceMethod ({ cls := "java/lang/Throwable", name := "fillInStackTrace", desc := "(I)Ljava/lang/Throwable;" } : Jvm.MethodName)) ∈ UW := uw_at 488 (by decide +kernel) rfl
theorem uw_489 : (Jvm.Cond.instantiable "java/lang/Throwable" (6 : Nat)) ∈ UW := uw_at 489 (by decide +kernel) rfl
theorem uw_492 : (Jvm.Cond.methodLink "StabilitySums" (89 : Nat) ({ cls := "java/lang/IllegalArgumentException", name := "<init>", desc := "(Ljava/lang/String;)V" } : Jvm.MethodName)) ∈ UW := uw_at 492 (by decide +kernel) rfl
theorem uw_493 : (Jvm.Cond.instanceMethod ({ cls := "java/lang/IllegalArgumentException", name := "<init>", desc := "(Ljava/lang/String;)V" } : Jvm.MethodName)) ∈ UW := uw_at 493 (by decide +kernel) rfl
set_option maxRecDepth 100000 in
theorem uw_494 : (Jvm.Cond.code ({ cls := "java/lang/IllegalArgumentException", name := "<init>", desc := "(Ljava/lang/String;)V" } : Jvm.MethodName) prog_14_method_2_code (2 : Nat) (Option.none : Option Jvm.ClassFile.FieldType)) ∈ UW := uw_at 494 rfl rfl
theorem uw_495 : (Jvm.Cond.methodLink "java/lang/IllegalArgumentException" (7 : Nat) ({ cls := "java/lang/RuntimeException", name := "<init>", desc := "(Ljava/lang/String;)V" } : Jvm.MethodName)) ∈ UW := uw_at 495 (by decide +kernel) rfl
theorem uw_496 : (Jvm.Cond.instanceMethod ({ cls := "java/lang/RuntimeException", name := "<init>", desc := "(Ljava/lang/String;)V" } : Jvm.MethodName)) ∈ UW := uw_at 496 (by decide +kernel) rfl
set_option maxRecDepth 100000 in
theorem uw_497 : (Jvm.Cond.code ({ cls := "java/lang/RuntimeException", name := "<init>", desc := "(Ljava/lang/String;)V" } : Jvm.MethodName) prog_18_method_2_code (2 : Nat) (Option.none : Option Jvm.ClassFile.FieldType)) ∈ UW := uw_at 497 rfl rfl
theorem uw_498 : (Jvm.Cond.methodLink "java/lang/RuntimeException" (7 : Nat) ({ cls := "java/lang/Exception", name := "<init>", desc := "(Ljava/lang/String;)V" } : Jvm.MethodName)) ∈ UW := uw_at 498 (by decide +kernel) rfl
theorem uw_499 : (Jvm.Cond.instanceMethod ({ cls := "java/lang/Exception", name := "<init>", desc := "(Ljava/lang/String;)V" } : Jvm.MethodName)) ∈ UW := uw_at 499 (by decide +kernel) rfl
set_option maxRecDepth 100000 in
theorem uw_500 : (Jvm.Cond.code ({ cls := "java/lang/Exception", name := "<init>", desc := "(Ljava/lang/String;)V" } : Jvm.MethodName) prog_13_method_2_code (2 : Nat) (Option.none : Option Jvm.ClassFile.FieldType)) ∈ UW := uw_at 500 rfl rfl
theorem uw_501 : (Jvm.Cond.methodLink "java/lang/Exception" (7 : Nat) ({ cls := "java/lang/Throwable", name := "<init>", desc := "(Ljava/lang/String;)V" } : Jvm.MethodName)) ∈ UW := uw_at 501 (by decide +kernel) rfl
theorem uw_502 : (Jvm.Cond.instanceMethod ({ cls := "java/lang/Throwable", name := "<init>", desc := "(Ljava/lang/String;)V" } : Jvm.MethodName)) ∈ UW := uw_at 502 (by decide +kernel) rfl
set_option maxRecDepth 100000 in
theorem uw_503 : (Jvm.Cond.code ({ cls := "java/lang/Throwable", name := "<init>", desc := "(Ljava/lang/String;)V" } : Jvm.MethodName) prog_20_method_2_code (2 : Nat) (Option.none : Option Jvm.ClassFile.FieldType)) ∈ UW := uw_at 503 rfl rfl
theorem uw_504 : (Jvm.Cond.fieldLink "java/lang/Throwable" (198 : Nat) "java/lang/Throwable" "backtrace" "Ljava/lang/Object;") ∈ UW := uw_at 504 (by decide +kernel) rfl
theorem uw_505 : (Jvm.Cond.fieldLink "java/lang/Throwable" (31 : Nat) "java/lang/Throwable" "detailMessage" "Ljava/lang/String;") ∈ UW := uw_at 505 (by decide +kernel) rfl
theorem uw_506 : (Jvm.Cond.fieldLink "java/lang/Throwable" (7 : Nat) "java/lang/Throwable" "cause" "Ljava/lang/Throwable;") ∈ UW := uw_at 506 (by decide +kernel) rfl
theorem uw_507 : (Jvm.Cond.fieldLink "java/lang/Throwable" (17 : Nat) "java/lang/Throwable" "stackTrace" "[Ljava/lang/StackTraceElement;") ∈ UW := uw_at 507 (by decide +kernel) rfl
theorem uw_508 : (Jvm.Cond.fieldLink "java/lang/Throwable" (24 : Nat) "java/lang/Throwable" "suppressedExceptions" "Ljava/util/List;") ∈ UW := uw_at 508 (by decide +kernel) rfl
theorem uw_513 : (Jvm.Cond.lays "java/lang/IllegalArgumentException" "java/lang/Throwable" "depth" "I") ∈ UW := uw_at 513 (by decide +kernel) rfl
theorem uw_517 : (Jvm.Cond.arrayClass Jvm.ClassFile.FieldType.byte) ∈ UW := uw_at 517 (by decide +kernel) rfl
theorem uw_518 : (Jvm.Cond.classLink "StabilitySums" (96 : Nat) "java/lang/IllegalStateException") ∈ UW := uw_at 518 (by decide +kernel) rfl
theorem uw_519 : (Jvm.Cond.instantiable "java/lang/IllegalStateException" (6 : Nat)) ∈ UW := uw_at 519 (by decide +kernel) rfl
theorem uw_521 : (Jvm.Cond.selects "java/lang/IllegalStateException" ({ cls := "java/lang/Throwable", name := "fillInStackTrace", desc := "(I)Ljava/lang/Throwable;" } : Jvm.MethodName) ({ cls := "java/lang/Throwable", name := "fillInStackTrace", desc := "(I)Ljava/lang/Throwable;" } : Jvm.MethodName)) ∈ UW := uw_at 521 (by decide +kernel) rfl
theorem uw_522 : (Jvm.Cond.lays "java/lang/IllegalStateException" "java/lang/Throwable" "cause" "Ljava/lang/Throwable;") ∈ UW := uw_at 522 (by decide +kernel) rfl
theorem uw_523 : (Jvm.Cond.lays "java/lang/IllegalStateException" "java/lang/Throwable" "stackTrace" "[Ljava/lang/StackTraceElement;") ∈ UW := uw_at 523 (by decide +kernel) rfl
theorem uw_524 : (Jvm.Cond.lays "java/lang/IllegalStateException" "java/lang/Throwable" "suppressedExceptions" "Ljava/util/List;") ∈ UW := uw_at 524 (by decide +kernel) rfl
theorem uw_525 : (Jvm.Cond.lays "java/lang/IllegalStateException" "java/lang/Throwable" "detailMessage" "Ljava/lang/String;") ∈ UW := uw_at 525 (by decide +kernel) rfl
theorem uw_526 : (Jvm.Cond.lays "java/lang/IllegalStateException" "java/lang/Throwable" "backtrace" "Ljava/lang/Object;") ∈ UW := uw_at 526 (by decide +kernel) rfl
theorem uw_528 : (Jvm.Cond.methodLink "StabilitySums" (100 : Nat) ({ cls := "java/lang/IllegalStateException", name := "<init>", desc := "(Ljava/lang/String;)V" } : Jvm.MethodName)) ∈ UW := uw_at 528 (by decide +kernel) rfl
theorem uw_529 : (Jvm.Cond.instanceMethod ({ cls := "java/lang/IllegalStateException", name := "<init>", desc := "(Ljava/lang/String;)V" } : Jvm.MethodName)) ∈ UW := uw_at 529 (by decide +kernel) rfl
set_option maxRecDepth 100000 in
theorem uw_530 : (Jvm.Cond.code ({ cls := "java/lang/IllegalStateException", name := "<init>", desc := "(Ljava/lang/String;)V" } : Jvm.MethodName) prog_15_method_2_code (2 : Nat) (Option.none : Option Jvm.ClassFile.FieldType)) ∈ UW := uw_at 530 rfl rfl
theorem uw_531 : (Jvm.Cond.methodLink "java/lang/IllegalStateException" (7 : Nat) ({ cls := "java/lang/RuntimeException", name := "<init>", desc := "(Ljava/lang/String;)V" } : Jvm.MethodName)) ∈ UW := uw_at 531 (by decide +kernel) rfl
theorem uw_532 : (Jvm.Cond.lays "java/lang/IllegalStateException" "java/lang/Throwable" "depth" "I") ∈ UW := uw_at 532 (by decide +kernel) rfl
theorem uw_534 : (Jvm.Cond.methodLink "StabilitySums" (101 : Nat) ({ cls := "StabilitySums$Weights", name := "append", desc := "(JJJJ)I" } : Jvm.MethodName)) ∈ UW := uw_at 534 (by decide +kernel) rfl
theorem uw_535 : (Jvm.Cond.instanceMethod ({ cls := "StabilitySums$Weights", name := "append", desc := "(JJJJ)I" } : Jvm.MethodName)) ∈ UW := uw_at 535 (by decide +kernel) rfl
theorem uw_536 : (Jvm.Cond.selects "StabilitySums$Weights" ({ cls := "StabilitySums$Weights", name := "append", desc := "(JJJJ)I" } : Jvm.MethodName) ({ cls := "StabilitySums$Weights", name := "append", desc := "(JJJJ)I" } : Jvm.MethodName)) ∈ UW := uw_at 536 (by decide +kernel) rfl
set_option maxRecDepth 100000 in
theorem uw_537 : (Jvm.Cond.code ({ cls := "StabilitySums$Weights", name := "append", desc := "(JJJJ)I" } : Jvm.MethodName) prog_9_method_2_code (10 : Nat) (Option.some Jvm.ClassFile.FieldType.int)) ∈ UW := uw_at 537 rfl rfl
theorem uw_538 : (Jvm.Cond.methodLink "StabilitySumsLaw" (76 : Nat) ({ cls := "StabilitySumsLaw", name := "tank", desc := "(LStabilitySums;JJJJJ[J)I" } : Jvm.MethodName)) ∈ UW := uw_at 538 (by decide +kernel) rfl
theorem uw_539 : (Jvm.Cond.static ({ cls := "StabilitySumsLaw", name := "tank", desc := "(LStabilitySums;JJJJJ[J)I" } : Jvm.MethodName)) ∈ UW := uw_at 539 (by decide +kernel) rfl
set_option maxRecDepth 100000 in
theorem uw_540 : (Jvm.Cond.codeWith ({ cls := "StabilitySumsLaw", name := "tank", desc := "(LStabilitySums;JJJJJ[J)I" } : Jvm.MethodName) method_4_code (13 : Nat) (Option.some Jvm.ClassFile.FieldType.int) [((0 : Nat), (17 : Nat), (20 : Nat), (13 : Nat)), ((0 : Nat), (17 : Nat), (24 : Nat), (15 : Nat))]) ∈ UW := uw_at 540 rfl rfl
theorem uw_541 : (Jvm.Cond.methodLink "StabilitySumsLaw" (17 : Nat) ({ cls := "StabilitySums", name := "tank", desc := "(JJJJJ)I" } : Jvm.MethodName)) ∈ UW := uw_at 541 (by decide +kernel) rfl
theorem uw_542 : (Jvm.Cond.instanceMethod ({ cls := "StabilitySums", name := "tank", desc := "(JJJJJ)I" } : Jvm.MethodName)) ∈ UW := uw_at 542 (by decide +kernel) rfl
theorem uw_543 : (Jvm.Cond.selects "StabilitySums" ({ cls := "StabilitySums", name := "tank", desc := "(JJJJJ)I" } : Jvm.MethodName) ({ cls := "StabilitySums", name := "tank", desc := "(JJJJJ)I" } : Jvm.MethodName)) ∈ UW := uw_at 543 (by decide +kernel) rfl
set_option maxRecDepth 100000 in
theorem uw_544 : (Jvm.Cond.code ({ cls := "StabilitySums", name := "tank", desc := "(JJJJJ)I" } : Jvm.MethodName) prog_1_method_3_code (11 : Nat) (Option.some Jvm.ClassFile.FieldType.int)) ∈ UW := uw_at 544 rfl rfl
theorem uw_545 : (Jvm.Cond.constantLong "StabilitySums" (107 : Nat) (40000 : Int64)) ∈ UW := uw_at 545 (by decide +kernel) rfl
theorem uw_546 : (Jvm.Cond.constantLong "StabilitySums" (109 : Nat) (1000000000 : Int64)) ∈ UW := uw_at 546 (by decide +kernel) rfl
theorem uw_549 : (Jvm.Cond.methodLink "StabilitySums" (116 : Nat) ({ cls := "StabilitySums$Tanks", name := "append", desc := "(JJJJJ)I" } : Jvm.MethodName)) ∈ UW := uw_at 549 (by decide +kernel) rfl
theorem uw_550 : (Jvm.Cond.instanceMethod ({ cls := "StabilitySums$Tanks", name := "append", desc := "(JJJJJ)I" } : Jvm.MethodName)) ∈ UW := uw_at 550 (by decide +kernel) rfl
theorem uw_551 : (Jvm.Cond.selects "StabilitySums$Tanks" ({ cls := "StabilitySums$Tanks", name := "append", desc := "(JJJJJ)I" } : Jvm.MethodName) ({ cls := "StabilitySums$Tanks", name := "append", desc := "(JJJJJ)I" } : Jvm.MethodName)) ∈ UW := uw_at 551 (by decide +kernel) rfl
set_option maxRecDepth 100000 in
theorem uw_552 : (Jvm.Cond.code ({ cls := "StabilitySums$Tanks", name := "append", desc := "(JJJJJ)I" } : Jvm.MethodName) prog_8_method_2_code (12 : Nat) (Option.some Jvm.ClassFile.FieldType.int)) ∈ UW := uw_at 552 rfl rfl
theorem uw_553 : (Jvm.Cond.methodLink "StabilitySumsLaw" (80 : Nat) ({ cls := "StabilitySumsLaw", name := "filled", desc := "(LStabilitySums;IJ[J)I" } : Jvm.MethodName)) ∈ UW := uw_at 553 (by decide +kernel) rfl
theorem uw_554 : (Jvm.Cond.static ({ cls := "StabilitySumsLaw", name := "filled", desc := "(LStabilitySums;IJ[J)I" } : Jvm.MethodName)) ∈ UW := uw_at 554 (by decide +kernel) rfl
set_option maxRecDepth 100000 in
theorem uw_555 : (Jvm.Cond.codeWith ({ cls := "StabilitySumsLaw", name := "filled", desc := "(LStabilitySums;IJ[J)I" } : Jvm.MethodName) method_5_code (6 : Nat) (Option.some Jvm.ClassFile.FieldType.int) [((0 : Nat), (11 : Nat), (14 : Nat), (25 : Nat))]) ∈ UW := uw_at 555 rfl rfl
theorem uw_556 : (Jvm.Cond.classLink "StabilitySumsLaw" (25 : Nat) "java/lang/IndexOutOfBoundsException") ∈ UW := uw_at 556 (by decide +kernel) rfl
theorem uw_557 : (Jvm.Cond.methodLink "StabilitySumsLaw" (21 : Nat) ({ cls := "StabilitySums", name := "filled", desc := "(IJ)I" } : Jvm.MethodName)) ∈ UW := uw_at 557 (by decide +kernel) rfl
theorem uw_558 : (Jvm.Cond.instanceMethod ({ cls := "StabilitySums", name := "filled", desc := "(IJ)I" } : Jvm.MethodName)) ∈ UW := uw_at 558 (by decide +kernel) rfl
theorem uw_559 : (Jvm.Cond.selects "StabilitySums" ({ cls := "StabilitySums", name := "filled", desc := "(IJ)I" } : Jvm.MethodName) ({ cls := "StabilitySums", name := "filled", desc := "(IJ)I" } : Jvm.MethodName)) ∈ UW := uw_at 559 (by decide +kernel) rfl
set_option maxRecDepth 100000 in
theorem uw_560 : (Jvm.Cond.code ({ cls := "StabilitySums", name := "filled", desc := "(IJ)I" } : Jvm.MethodName) prog_1_method_4_code (4 : Nat) (Option.some Jvm.ClassFile.FieldType.int)) ∈ UW := uw_at 560 rfl rfl
theorem uw_561 : (Jvm.Cond.classLink "StabilitySums" (119 : Nat) "java/lang/IndexOutOfBoundsException") ∈ UW := uw_at 561 (by decide +kernel) rfl
theorem uw_562 : (Jvm.Cond.instantiable "java/lang/IndexOutOfBoundsException" (6 : Nat)) ∈ UW := uw_at 562 (by decide +kernel) rfl
theorem uw_564 : (Jvm.Cond.selects "java/lang/IndexOutOfBoundsException" ({ cls := "java/lang/Throwable", name := "fillInStackTrace", desc := "(I)Ljava/lang/Throwable;" } : Jvm.MethodName) ({ cls := "java/lang/Throwable", name := "fillInStackTrace", desc := "(I)Ljava/lang/Throwable;" } : Jvm.MethodName)) ∈ UW := uw_at 564 (by decide +kernel) rfl
theorem uw_565 : (Jvm.Cond.lays "java/lang/IndexOutOfBoundsException" "java/lang/Throwable" "cause" "Ljava/lang/Throwable;") ∈ UW := uw_at 565 (by decide +kernel) rfl
theorem uw_566 : (Jvm.Cond.lays "java/lang/IndexOutOfBoundsException" "java/lang/Throwable" "stackTrace" "[Ljava/lang/StackTraceElement;") ∈ UW := uw_at 566 (by decide +kernel) rfl
theorem uw_567 : (Jvm.Cond.lays "java/lang/IndexOutOfBoundsException" "java/lang/Throwable" "suppressedExceptions" "Ljava/util/List;") ∈ UW := uw_at 567 (by decide +kernel) rfl
theorem uw_568 : (Jvm.Cond.lays "java/lang/IndexOutOfBoundsException" "java/lang/Throwable" "detailMessage" "Ljava/lang/String;") ∈ UW := uw_at 568 (by decide +kernel) rfl
theorem uw_569 : (Jvm.Cond.lays "java/lang/IndexOutOfBoundsException" "java/lang/Throwable" "backtrace" "Ljava/lang/Object;") ∈ UW := uw_at 569 (by decide +kernel) rfl
theorem uw_571 : (Jvm.Cond.methodLink "StabilitySums" (123 : Nat) ({ cls := "java/lang/IndexOutOfBoundsException", name := "<init>", desc := "(Ljava/lang/String;)V" } : Jvm.MethodName)) ∈ UW := uw_at 571 (by decide +kernel) rfl
theorem uw_572 : (Jvm.Cond.instanceMethod ({ cls := "java/lang/IndexOutOfBoundsException", name := "<init>", desc := "(Ljava/lang/String;)V" } : Jvm.MethodName)) ∈ UW := uw_at 572 (by decide +kernel) rfl
set_option maxRecDepth 100000 in
theorem uw_573 : (Jvm.Cond.code ({ cls := "java/lang/IndexOutOfBoundsException", name := "<init>", desc := "(Ljava/lang/String;)V" } : Jvm.MethodName) prog_16_method_2_code (2 : Nat) (Option.none : Option Jvm.ClassFile.FieldType)) ∈ UW := uw_at 573 rfl rfl
theorem uw_574 : (Jvm.Cond.methodLink "java/lang/IndexOutOfBoundsException" (7 : Nat) ({ cls := "java/lang/RuntimeException", name := "<init>", desc := "(Ljava/lang/String;)V" } : Jvm.MethodName)) ∈ UW := uw_at 574 (by decide +kernel) rfl
theorem uw_575 : (Jvm.Cond.lays "java/lang/IndexOutOfBoundsException" "java/lang/Throwable" "depth" "I") ∈ UW := uw_at 575 (by decide +kernel) rfl
theorem uw_577 : (Jvm.Cond.methodLink "StabilitySumsLaw" (84 : Nat) ({ cls := "StabilitySumsLaw", name := "hydro", desc := "(LStabilitySums;JJJ[J)I" } : Jvm.MethodName)) ∈ UW := uw_at 577 (by decide +kernel) rfl
theorem uw_578 : (Jvm.Cond.static ({ cls := "StabilitySumsLaw", name := "hydro", desc := "(LStabilitySums;JJJ[J)I" } : Jvm.MethodName)) ∈ UW := uw_at 578 (by decide +kernel) rfl
set_option maxRecDepth 100000 in
theorem uw_579 : (Jvm.Cond.codeWith ({ cls := "StabilitySumsLaw", name := "hydro", desc := "(LStabilitySums;JJJ[J)I" } : Jvm.MethodName) method_6_code (9 : Nat) (Option.some Jvm.ClassFile.FieldType.int) [((0 : Nat), (13 : Nat), (16 : Nat), (13 : Nat)), ((0 : Nat), (13 : Nat), (20 : Nat), (15 : Nat))]) ∈ UW := uw_at 579 rfl rfl
theorem uw_580 : (Jvm.Cond.methodLink "StabilitySumsLaw" (27 : Nat) ({ cls := "StabilitySums", name := "hydro", desc := "(JJJ)I" } : Jvm.MethodName)) ∈ UW := uw_at 580 (by decide +kernel) rfl
theorem uw_581 : (Jvm.Cond.instanceMethod ({ cls := "StabilitySums", name := "hydro", desc := "(JJJ)I" } : Jvm.MethodName)) ∈ UW := uw_at 581 (by decide +kernel) rfl
theorem uw_582 : (Jvm.Cond.selects "StabilitySums" ({ cls := "StabilitySums", name := "hydro", desc := "(JJJ)I" } : Jvm.MethodName) ({ cls := "StabilitySums", name := "hydro", desc := "(JJJ)I" } : Jvm.MethodName)) ∈ UW := uw_at 582 (by decide +kernel) rfl
set_option maxRecDepth 100000 in
theorem uw_583 : (Jvm.Cond.code ({ cls := "StabilitySums", name := "hydro", desc := "(JJJ)I" } : Jvm.MethodName) prog_1_method_5_code (7 : Nat) (Option.some Jvm.ClassFile.FieldType.int)) ∈ UW := uw_at 583 rfl rfl
theorem uw_584 : (Jvm.Cond.constantLong "StabilitySums" (131 : Nat) (5000000 : Int64)) ∈ UW := uw_at 584 (by decide +kernel) rfl
theorem uw_585 : (Jvm.Cond.methodLink "StabilitySums" (137 : Nat) ({ cls := "StabilitySums$Table", name := "lastDisplacement", desc := "()J" } : Jvm.MethodName)) ∈ UW := uw_at 585 (by decide +kernel) rfl
theorem uw_586 : (Jvm.Cond.instanceMethod ({ cls := "StabilitySums$Table", name := "lastDisplacement", desc := "()J" } : Jvm.MethodName)) ∈ UW := uw_at 586 (by decide +kernel) rfl
theorem uw_587 : (Jvm.Cond.selects "StabilitySums$Table" ({ cls := "StabilitySums$Table", name := "lastDisplacement", desc := "()J" } : Jvm.MethodName) ({ cls := "StabilitySums$Table", name := "lastDisplacement", desc := "()J" } : Jvm.MethodName)) ∈ UW := uw_at 587 (by decide +kernel) rfl
set_option maxRecDepth 100000 in
theorem uw_588 : (Jvm.Cond.code ({ cls := "StabilitySums$Table", name := "lastDisplacement", desc := "()J" } : Jvm.MethodName) prog_7_method_3_code (1 : Nat) (Option.some Jvm.ClassFile.FieldType.long)) ∈ UW := uw_at 588 rfl rfl
theorem uw_591 : (Jvm.Cond.methodLink "StabilitySums" (146 : Nat) ({ cls := "StabilitySums$Table", name := "append", desc := "(JJJ)I" } : Jvm.MethodName)) ∈ UW := uw_at 591 (by decide +kernel) rfl
theorem uw_592 : (Jvm.Cond.instanceMethod ({ cls := "StabilitySums$Table", name := "append", desc := "(JJJ)I" } : Jvm.MethodName)) ∈ UW := uw_at 592 (by decide +kernel) rfl
theorem uw_593 : (Jvm.Cond.selects "StabilitySums$Table" ({ cls := "StabilitySums$Table", name := "append", desc := "(JJJ)I" } : Jvm.MethodName) ({ cls := "StabilitySums$Table", name := "append", desc := "(JJJ)I" } : Jvm.MethodName)) ∈ UW := uw_at 593 (by decide +kernel) rfl
set_option maxRecDepth 100000 in
theorem uw_594 : (Jvm.Cond.code ({ cls := "StabilitySums$Table", name := "append", desc := "(JJJ)I" } : Jvm.MethodName) prog_7_method_2_code (7 : Nat) (Option.some Jvm.ClassFile.FieldType.int)) ∈ UW := uw_at 594 rfl rfl
theorem uw_595 : (Jvm.Cond.methodLink "StabilitySumsLaw" (93 : Nat) ({ cls := "StabilitySumsLaw", name := "value", desc := "(LStabilitySums;II[J)I" } : Jvm.MethodName)) ∈ UW := uw_at 595 (by decide +kernel) rfl
theorem uw_596 : (Jvm.Cond.static ({ cls := "StabilitySumsLaw", name := "value", desc := "(LStabilitySums;II[J)I" } : Jvm.MethodName)) ∈ UW := uw_at 596 (by decide +kernel) rfl
set_option maxRecDepth 100000 in
theorem uw_597 : (Jvm.Cond.codeWith ({ cls := "StabilitySumsLaw", name := "value", desc := "(LStabilitySums;II[J)I" } : Jvm.MethodName) method_7_code (5 : Nat) (Option.some Jvm.ClassFile.FieldType.int) [((0 : Nat), (9 : Nat), (12 : Nat), (13 : Nat)), ((0 : Nat), (9 : Nat), (16 : Nat), (35 : Nat))]) ∈ UW := uw_at 597 rfl rfl
theorem uw_598 : (Jvm.Cond.classLink "StabilitySumsLaw" (35 : Nat) "java/lang/ArithmeticException") ∈ UW := uw_at 598 (by decide +kernel) rfl
theorem uw_599 : (Jvm.Cond.methodLink "StabilitySumsLaw" (31 : Nat) ({ cls := "StabilitySums", name := "value", desc := "(II)J" } : Jvm.MethodName)) ∈ UW := uw_at 599 (by decide +kernel) rfl
theorem uw_600 : (Jvm.Cond.instanceMethod ({ cls := "StabilitySums", name := "value", desc := "(II)J" } : Jvm.MethodName)) ∈ UW := uw_at 600 (by decide +kernel) rfl
theorem uw_601 : (Jvm.Cond.selects "StabilitySums" ({ cls := "StabilitySums", name := "value", desc := "(II)J" } : Jvm.MethodName) ({ cls := "StabilitySums", name := "value", desc := "(II)J" } : Jvm.MethodName)) ∈ UW := uw_at 601 (by decide +kernel) rfl
set_option maxRecDepth 100000 in
theorem uw_602 : (Jvm.Cond.code ({ cls := "StabilitySums", name := "value", desc := "(II)J" } : Jvm.MethodName) prog_1_method_7_code (3 : Nat) (Option.some Jvm.ClassFile.FieldType.long)) ∈ UW := uw_at 602 rfl rfl
theorem uw_603 : (Jvm.Cond.constantLong "StabilitySums" (149 : Nat) (7 : Int64)) ∈ UW := uw_at 603 (by decide +kernel) rfl
theorem uw_605 : (Jvm.Cond.classLink "StabilitySums" (162 : Nat) "java/lang/ArithmeticException") ∈ UW := uw_at 605 (by decide +kernel) rfl
theorem uw_606 : (Jvm.Cond.instantiable "java/lang/ArithmeticException" (6 : Nat)) ∈ UW := uw_at 606 (by decide +kernel) rfl
theorem uw_608 : (Jvm.Cond.selects "java/lang/ArithmeticException" ({ cls := "java/lang/Throwable", name := "fillInStackTrace", desc := "(I)Ljava/lang/Throwable;" } : Jvm.MethodName) ({ cls := "java/lang/Throwable", name := "fillInStackTrace", desc := "(I)Ljava/lang/Throwable;" } : Jvm.MethodName)) ∈ UW := uw_at 608 (by decide +kernel) rfl
theorem uw_609 : (Jvm.Cond.lays "java/lang/ArithmeticException" "java/lang/Throwable" "cause" "Ljava/lang/Throwable;") ∈ UW := uw_at 609 (by decide +kernel) rfl
theorem uw_610 : (Jvm.Cond.lays "java/lang/ArithmeticException" "java/lang/Throwable" "stackTrace" "[Ljava/lang/StackTraceElement;") ∈ UW := uw_at 610 (by decide +kernel) rfl
theorem uw_611 : (Jvm.Cond.lays "java/lang/ArithmeticException" "java/lang/Throwable" "suppressedExceptions" "Ljava/util/List;") ∈ UW := uw_at 611 (by decide +kernel) rfl
theorem uw_612 : (Jvm.Cond.lays "java/lang/ArithmeticException" "java/lang/Throwable" "detailMessage" "Ljava/lang/String;") ∈ UW := uw_at 612 (by decide +kernel) rfl
theorem uw_613 : (Jvm.Cond.lays "java/lang/ArithmeticException" "java/lang/Throwable" "backtrace" "Ljava/lang/Object;") ∈ UW := uw_at 613 (by decide +kernel) rfl
theorem uw_615 : (Jvm.Cond.methodLink "StabilitySums" (166 : Nat) ({ cls := "java/lang/ArithmeticException", name := "<init>", desc := "(Ljava/lang/String;)V" } : Jvm.MethodName)) ∈ UW := uw_at 615 (by decide +kernel) rfl
theorem uw_616 : (Jvm.Cond.instanceMethod ({ cls := "java/lang/ArithmeticException", name := "<init>", desc := "(Ljava/lang/String;)V" } : Jvm.MethodName)) ∈ UW := uw_at 616 (by decide +kernel) rfl
set_option maxRecDepth 100000 in
theorem uw_617 : (Jvm.Cond.code ({ cls := "java/lang/ArithmeticException", name := "<init>", desc := "(Ljava/lang/String;)V" } : Jvm.MethodName) prog_12_method_2_code (2 : Nat) (Option.none : Option Jvm.ClassFile.FieldType)) ∈ UW := uw_at 617 rfl rfl
theorem uw_618 : (Jvm.Cond.methodLink "java/lang/ArithmeticException" (7 : Nat) ({ cls := "java/lang/RuntimeException", name := "<init>", desc := "(Ljava/lang/String;)V" } : Jvm.MethodName)) ∈ UW := uw_at 618 (by decide +kernel) rfl
theorem uw_619 : (Jvm.Cond.lays "java/lang/ArithmeticException" "java/lang/Throwable" "depth" "I") ∈ UW := uw_at 619 (by decide +kernel) rfl
theorem uw_621 : (Jvm.Cond.methodLink "StabilitySums" (174 : Nat) ({ cls := "StabilitySums$Fraction", name := "reduce", desc := "()V" } : Jvm.MethodName)) ∈ UW := uw_at 621 (by decide +kernel) rfl
theorem uw_622 : (Jvm.Cond.instanceMethod ({ cls := "StabilitySums$Fraction", name := "reduce", desc := "()V" } : Jvm.MethodName)) ∈ UW := uw_at 622 (by decide +kernel) rfl
theorem uw_623 : (Jvm.Cond.selects "StabilitySums$Fraction" ({ cls := "StabilitySums$Fraction", name := "reduce", desc := "()V" } : Jvm.MethodName) ({ cls := "StabilitySums$Fraction", name := "reduce", desc := "()V" } : Jvm.MethodName)) ∈ UW := uw_at 623 (by decide +kernel) rfl
set_option maxRecDepth 100000 in
theorem uw_624 : (Jvm.Cond.code ({ cls := "StabilitySums$Fraction", name := "reduce", desc := "()V" } : Jvm.MethodName) prog_3_method_5_code (3 : Nat) (Option.none : Option Jvm.ClassFile.FieldType)) ∈ UW := uw_at 624 rfl rfl
theorem uw_625 : (Jvm.Cond.methodLink "StabilitySums$Fraction" (22 : Nat) ({ cls := "java/lang/Math", name := "abs", desc := "(J)J" } : Jvm.MethodName)) ∈ UW := uw_at 625 (by decide +kernel) rfl
theorem uw_626 : (Jvm.Cond.methodLink "StabilitySums$Fraction" (28 : Nat) ({ cls := "StabilitySums$Fraction", name := "commonDivisor", desc := "(JJ)J" } : Jvm.MethodName)) ∈ UW := uw_at 626 (by decide +kernel) rfl
theorem uw_627 : (Jvm.Cond.static ({ cls := "StabilitySums$Fraction", name := "commonDivisor", desc := "(JJ)J" } : Jvm.MethodName)) ∈ UW := uw_at 627 (by decide +kernel) rfl
set_option maxRecDepth 100000 in
theorem uw_628 : (Jvm.Cond.code ({ cls := "StabilitySums$Fraction", name := "commonDivisor", desc := "(JJ)J" } : Jvm.MethodName) prog_3_method_6_code (11 : Nat) (Option.some Jvm.ClassFile.FieldType.long)) ∈ UW := uw_at 628 rfl rfl
theorem uw_629 : (Jvm.Cond.methodLink "StabilitySumsLaw" (97 : Nat) ({ cls := "StabilitySumsLaw", name := "shear", desc := "(LStabilitySums;J[J)I" } : Jvm.MethodName)) ∈ UW := uw_at 629 (by decide +kernel) rfl
theorem uw_630 : (Jvm.Cond.static ({ cls := "StabilitySumsLaw", name := "shear", desc := "(LStabilitySums;J[J)I" } : Jvm.MethodName)) ∈ UW := uw_at 630 (by decide +kernel) rfl
set_option maxRecDepth 100000 in
theorem uw_631 : (Jvm.Cond.codeWith ({ cls := "StabilitySumsLaw", name := "shear", desc := "(LStabilitySums;J[J)I" } : Jvm.MethodName) method_8_code (5 : Nat) (Option.some Jvm.ClassFile.FieldType.int) [((0 : Nat), (8 : Nat), (11 : Nat), (13 : Nat))]) ∈ UW := uw_at 631 rfl rfl
theorem uw_632 : (Jvm.Cond.methodLink "StabilitySumsLaw" (37 : Nat) ({ cls := "StabilitySums", name := "shear", desc := "(J)J" } : Jvm.MethodName)) ∈ UW := uw_at 632 (by decide +kernel) rfl
theorem uw_633 : (Jvm.Cond.instanceMethod ({ cls := "StabilitySums", name := "shear", desc := "(J)J" } : Jvm.MethodName)) ∈ UW := uw_at 633 (by decide +kernel) rfl
theorem uw_634 : (Jvm.Cond.selects "StabilitySums" ({ cls := "StabilitySums", name := "shear", desc := "(J)J" } : Jvm.MethodName) ({ cls := "StabilitySums", name := "shear", desc := "(J)J" } : Jvm.MethodName)) ∈ UW := uw_at 634 (by decide +kernel) rfl
set_option maxRecDepth 100000 in
theorem uw_635 : (Jvm.Cond.code ({ cls := "StabilitySums", name := "shear", desc := "(J)J" } : Jvm.MethodName) prog_1_method_8_code (3 : Nat) (Option.some Jvm.ClassFile.FieldType.long)) ∈ UW := uw_at 635 rfl rfl
theorem uw_637 : (Jvm.Cond.methodLink "StabilitySumsLaw" (101 : Nat) ({ cls := "StabilitySumsLaw", name := "bending", desc := "(LStabilitySums;J[J)I" } : Jvm.MethodName)) ∈ UW := uw_at 637 (by decide +kernel) rfl
theorem uw_638 : (Jvm.Cond.static ({ cls := "StabilitySumsLaw", name := "bending", desc := "(LStabilitySums;J[J)I" } : Jvm.MethodName)) ∈ UW := uw_at 638 (by decide +kernel) rfl
set_option maxRecDepth 100000 in
theorem uw_639 : (Jvm.Cond.codeWith ({ cls := "StabilitySumsLaw", name := "bending", desc := "(LStabilitySums;J[J)I" } : Jvm.MethodName) method_9_code (5 : Nat) (Option.some Jvm.ClassFile.FieldType.int) [((0 : Nat), (8 : Nat), (11 : Nat), (13 : Nat))]) ∈ UW := uw_at 639 rfl rfl
theorem uw_640 : (Jvm.Cond.methodLink "StabilitySumsLaw" (41 : Nat) ({ cls := "StabilitySums", name := "bending", desc := "(J)J" } : Jvm.MethodName)) ∈ UW := uw_at 640 (by decide +kernel) rfl
theorem uw_641 : (Jvm.Cond.instanceMethod ({ cls := "StabilitySums", name := "bending", desc := "(J)J" } : Jvm.MethodName)) ∈ UW := uw_at 641 (by decide +kernel) rfl
theorem uw_642 : (Jvm.Cond.selects "StabilitySums" ({ cls := "StabilitySums", name := "bending", desc := "(J)J" } : Jvm.MethodName) ({ cls := "StabilitySums", name := "bending", desc := "(J)J" } : Jvm.MethodName)) ∈ UW := uw_at 642 (by decide +kernel) rfl
set_option maxRecDepth 100000 in
theorem uw_643 : (Jvm.Cond.code ({ cls := "StabilitySums", name := "bending", desc := "(J)J" } : Jvm.MethodName) prog_1_method_9_code (3 : Nat) (Option.some Jvm.ClassFile.FieldType.long)) ∈ UW := uw_at 643 rfl rfl
theorem uw_644 : (Jvm.Cond.methodLink "StabilitySumsLaw" (104 : Nat) ({ cls := "StabilitySumsLaw", name := "limit", desc := "(LStabilitySums;IJJJ[J)I" } : Jvm.MethodName)) ∈ UW := uw_at 644 (by decide +kernel) rfl
theorem uw_645 : (Jvm.Cond.static ({ cls := "StabilitySumsLaw", name := "limit", desc := "(LStabilitySums;IJJJ[J)I" } : Jvm.MethodName)) ∈ UW := uw_at 645 (by decide +kernel) rfl
set_option maxRecDepth 100000 in
theorem uw_646 : (Jvm.Cond.codeWith ({ cls := "StabilitySumsLaw", name := "limit", desc := "(LStabilitySums;IJJJ[J)I" } : Jvm.MethodName) method_10_code (10 : Nat) (Option.some Jvm.ClassFile.FieldType.int) [((0 : Nat), (15 : Nat), (18 : Nat), (13 : Nat)), ((0 : Nat), (15 : Nat), (22 : Nat), (15 : Nat))]) ∈ UW := uw_at 646 rfl rfl
theorem uw_647 : (Jvm.Cond.methodLink "StabilitySumsLaw" (44 : Nat) ({ cls := "StabilitySums", name := "limit", desc := "(IJJJ)I" } : Jvm.MethodName)) ∈ UW := uw_at 647 (by decide +kernel) rfl
theorem uw_648 : (Jvm.Cond.instanceMethod ({ cls := "StabilitySums", name := "limit", desc := "(IJJJ)I" } : Jvm.MethodName)) ∈ UW := uw_at 648 (by decide +kernel) rfl
theorem uw_649 : (Jvm.Cond.selects "StabilitySums" ({ cls := "StabilitySums", name := "limit", desc := "(IJJJ)I" } : Jvm.MethodName) ({ cls := "StabilitySums", name := "limit", desc := "(IJJJ)I" } : Jvm.MethodName)) ∈ UW := uw_at 649 (by decide +kernel) rfl
set_option maxRecDepth 100000 in
theorem uw_650 : (Jvm.Cond.code ({ cls := "StabilitySums", name := "limit", desc := "(IJJJ)I" } : Jvm.MethodName) prog_1_method_10_code (9 : Nat) (Option.some Jvm.ClassFile.FieldType.int)) ∈ UW := uw_at 650 rfl rfl
theorem uw_651 : (Jvm.Cond.constantLong "StabilitySums" (195 : Nat) (9 : Int64)) ∈ UW := uw_at 651 (by decide +kernel) rfl
theorem uw_652 : (Jvm.Cond.constantLong "StabilitySums" (197 : Nat) (-10000000000000 : Int64)) ∈ UW := uw_at 652 (by decide +kernel) rfl
theorem uw_653 : (Jvm.Cond.constantLong "StabilitySums" (199 : Nat) (10000000000000 : Int64)) ∈ UW := uw_at 653 (by decide +kernel) rfl
theorem uw_656 : (Jvm.Cond.methodLink "StabilitySums" (206 : Nat) ({ cls := "StabilitySums$Limits", name := "append", desc := "(IJJ)I" } : Jvm.MethodName)) ∈ UW := uw_at 656 (by decide +kernel) rfl
theorem uw_657 : (Jvm.Cond.instanceMethod ({ cls := "StabilitySums$Limits", name := "append", desc := "(IJJ)I" } : Jvm.MethodName)) ∈ UW := uw_at 657 (by decide +kernel) rfl
theorem uw_658 : (Jvm.Cond.selects "StabilitySums$Limits" ({ cls := "StabilitySums$Limits", name := "append", desc := "(IJJ)I" } : Jvm.MethodName) ({ cls := "StabilitySums$Limits", name := "append", desc := "(IJJ)I" } : Jvm.MethodName)) ∈ UW := uw_at 658 (by decide +kernel) rfl
set_option maxRecDepth 100000 in
theorem uw_659 : (Jvm.Cond.code ({ cls := "StabilitySums$Limits", name := "append", desc := "(IJJ)I" } : Jvm.MethodName) prog_4_method_2_code (6 : Nat) (Option.some Jvm.ClassFile.FieldType.int)) ∈ UW := uw_at 659 rfl rfl
theorem uw_660 : (Jvm.Cond.methodLink "StabilitySumsLaw" (117 : Nat) ({ cls := "StabilitySumsLaw", name := "fill", desc := "(LStabilitySums;I[J)I" } : Jvm.MethodName)) ∈ UW := uw_at 660 (by decide +kernel) rfl
theorem uw_661 : (Jvm.Cond.static ({ cls := "StabilitySumsLaw", name := "fill", desc := "(LStabilitySums;I[J)I" } : Jvm.MethodName)) ∈ UW := uw_at 661 (by decide +kernel) rfl
set_option maxRecDepth 100000 in
theorem uw_662 : (Jvm.Cond.codeWith ({ cls := "StabilitySumsLaw", name := "fill", desc := "(LStabilitySums;I[J)I" } : Jvm.MethodName) method_11_code (4 : Nat) (Option.some Jvm.ClassFile.FieldType.int) [((0 : Nat), (8 : Nat), (11 : Nat), (25 : Nat))]) ∈ UW := uw_at 662 rfl rfl
theorem uw_663 : (Jvm.Cond.methodLink "StabilitySumsLaw" (48 : Nat) ({ cls := "StabilitySums", name := "fill", desc := "(I)J" } : Jvm.MethodName)) ∈ UW := uw_at 663 (by decide +kernel) rfl
theorem uw_664 : (Jvm.Cond.instanceMethod ({ cls := "StabilitySums", name := "fill", desc := "(I)J" } : Jvm.MethodName)) ∈ UW := uw_at 664 (by decide +kernel) rfl
theorem uw_665 : (Jvm.Cond.selects "StabilitySums" ({ cls := "StabilitySums", name := "fill", desc := "(I)J" } : Jvm.MethodName) ({ cls := "StabilitySums", name := "fill", desc := "(I)J" } : Jvm.MethodName)) ∈ UW := uw_at 665 (by decide +kernel) rfl
set_option maxRecDepth 100000 in
theorem uw_666 : (Jvm.Cond.code ({ cls := "StabilitySums", name := "fill", desc := "(I)J" } : Jvm.MethodName) prog_1_method_13_code (2 : Nat) (Option.some Jvm.ClassFile.FieldType.long)) ∈ UW := uw_at 666 rfl rfl
theorem uw_667 : (Jvm.Cond.methodLink "StabilitySumsLaw" (121 : Nat) ({ cls := "StabilitySumsLaw", name := "plan", desc := "(LStabilitySums;ZIJ[J)I" } : Jvm.MethodName)) ∈ UW := uw_at 667 (by decide +kernel) rfl
theorem uw_668 : (Jvm.Cond.static ({ cls := "StabilitySumsLaw", name := "plan", desc := "(LStabilitySums;ZIJ[J)I" } : Jvm.MethodName)) ∈ UW := uw_at 668 (by decide +kernel) rfl
set_option maxRecDepth 100000 in
theorem uw_669 : (Jvm.Cond.codeWith ({ cls := "StabilitySumsLaw", name := "plan", desc := "(LStabilitySums;ZIJ[J)I" } : Jvm.MethodName) method_12_code (7 : Nat) (Option.some Jvm.ClassFile.FieldType.int) [((0 : Nat), (12 : Nat), (15 : Nat), (25 : Nat)), ((0 : Nat), (12 : Nat), (19 : Nat), (13 : Nat)), ((0 : Nat), (12 : Nat), (23 : Nat), (15 : Nat))]) ∈ UW := uw_at 669 rfl rfl
theorem uw_670 : (Jvm.Cond.methodLink "StabilitySumsLaw" (52 : Nat) ({ cls := "StabilitySums", name := "plan", desc := "(ZIJ)I" } : Jvm.MethodName)) ∈ UW := uw_at 670 (by decide +kernel) rfl
theorem uw_671 : (Jvm.Cond.instanceMethod ({ cls := "StabilitySums", name := "plan", desc := "(ZIJ)I" } : Jvm.MethodName)) ∈ UW := uw_at 671 (by decide +kernel) rfl
theorem uw_672 : (Jvm.Cond.selects "StabilitySums" ({ cls := "StabilitySums", name := "plan", desc := "(ZIJ)I" } : Jvm.MethodName) ({ cls := "StabilitySums", name := "plan", desc := "(ZIJ)I" } : Jvm.MethodName)) ∈ UW := uw_at 672 (by decide +kernel) rfl
set_option maxRecDepth 100000 in
theorem uw_673 : (Jvm.Cond.code ({ cls := "StabilitySums", name := "plan", desc := "(ZIJ)I" } : Jvm.MethodName) prog_1_method_14_code (10 : Nat) (Option.some Jvm.ClassFile.FieldType.int)) ∈ UW := uw_at 673 rfl rfl
theorem uw_677 : (Jvm.Cond.methodLink "StabilitySums" (228 : Nat) ({ cls := "StabilitySums$Steps", name := "append", desc := "(ZIJ)I" } : Jvm.MethodName)) ∈ UW := uw_at 677 (by decide +kernel) rfl
theorem uw_678 : (Jvm.Cond.instanceMethod ({ cls := "StabilitySums$Steps", name := "append", desc := "(ZIJ)I" } : Jvm.MethodName)) ∈ UW := uw_at 678 (by decide +kernel) rfl
theorem uw_679 : (Jvm.Cond.selects "StabilitySums$Steps" ({ cls := "StabilitySums$Steps", name := "append", desc := "(ZIJ)I" } : Jvm.MethodName) ({ cls := "StabilitySums$Steps", name := "append", desc := "(ZIJ)I" } : Jvm.MethodName)) ∈ UW := uw_at 679 (by decide +kernel) rfl
set_option maxRecDepth 100000 in
theorem uw_680 : (Jvm.Cond.code ({ cls := "StabilitySums$Steps", name := "append", desc := "(ZIJ)I" } : Jvm.MethodName) prog_5_method_2_code (6 : Nat) (Option.some Jvm.ClassFile.FieldType.int)) ∈ UW := uw_at 680 rfl rfl
theorem uw_681 : (Jvm.Cond.methodLink "StabilitySumsLaw" (125 : Nat) ({ cls := "StabilitySumsLaw", name := "step", desc := "(LStabilitySums;I[J)I" } : Jvm.MethodName)) ∈ UW := uw_at 681 (by decide +kernel) rfl
theorem uw_682 : (Jvm.Cond.static ({ cls := "StabilitySumsLaw", name := "step", desc := "(LStabilitySums;I[J)I" } : Jvm.MethodName)) ∈ UW := uw_at 682 (by decide +kernel) rfl
set_option maxRecDepth 100000 in
theorem uw_683 : (Jvm.Cond.codeWith ({ cls := "StabilitySumsLaw", name := "step", desc := "(LStabilitySums;I[J)I" } : Jvm.MethodName) method_13_code (4 : Nat) (Option.some Jvm.ClassFile.FieldType.int) [((0 : Nat), (9 : Nat), (12 : Nat), (25 : Nat))]) ∈ UW := uw_at 683 rfl rfl
theorem uw_684 : (Jvm.Cond.methodLink "StabilitySumsLaw" (56 : Nat) ({ cls := "StabilitySums", name := "step", desc := "(I)I" } : Jvm.MethodName)) ∈ UW := uw_at 684 (by decide +kernel) rfl
theorem uw_685 : (Jvm.Cond.instanceMethod ({ cls := "StabilitySums", name := "step", desc := "(I)I" } : Jvm.MethodName)) ∈ UW := uw_at 685 (by decide +kernel) rfl
theorem uw_686 : (Jvm.Cond.selects "StabilitySums" ({ cls := "StabilitySums", name := "step", desc := "(I)I" } : Jvm.MethodName) ({ cls := "StabilitySums", name := "step", desc := "(I)I" } : Jvm.MethodName)) ∈ UW := uw_at 686 (by decide +kernel) rfl
set_option maxRecDepth 100000 in
theorem uw_687 : (Jvm.Cond.code ({ cls := "StabilitySums", name := "step", desc := "(I)I" } : Jvm.MethodName) prog_1_method_15_code (3 : Nat) (Option.some Jvm.ClassFile.FieldType.int)) ∈ UW := uw_at 687 rfl rfl
theorem uw_689 : (Jvm.Cond.classLink "StabilitySumsLaw" (61 : Nat) "StabilitySumsModel") ∈ UW := uw_at 689 (by decide +kernel) rfl
theorem uw_690 : (Jvm.Cond.instantiable "StabilitySumsModel" (33 : Nat)) ∈ UW := uw_at 690 (by decide +kernel) rfl
theorem uw_691 : (Jvm.Cond.methodLink "StabilitySumsLaw" (63 : Nat) ({ cls := "StabilitySumsModel", name := "<init>", desc := "()V" } : Jvm.MethodName)) ∈ UW := uw_at 691 (by decide +kernel) rfl
theorem uw_692 : (Jvm.Cond.instanceMethod ({ cls := "StabilitySumsModel", name := "<init>", desc := "()V" } : Jvm.MethodName)) ∈ UW := uw_at 692 (by decide +kernel) rfl
set_option maxRecDepth 100000 in
theorem uw_693 : (Jvm.Cond.code ({ cls := "StabilitySumsModel", name := "<init>", desc := "()V" } : Jvm.MethodName) prog_11_method_1_code (1 : Nat) (Option.none : Option Jvm.ClassFile.FieldType)) ∈ UW := uw_at 693 rfl rfl
theorem uw_694 : (Jvm.Cond.methodLink "StabilitySumsModel" (1 : Nat) ({ cls := "java/lang/Object", name := "<init>", desc := "()V" } : Jvm.MethodName)) ∈ UW := uw_at 694 (by decide +kernel) rfl
theorem uw_695 : (Jvm.Cond.constantLong "StabilitySumsModel" (58 : Nat) (10000 : Int64)) ∈ UW := uw_at 695 (by decide +kernel) rfl
theorem uw_696 : (Jvm.Cond.fieldLink "StabilitySumsModel" (87 : Nat) "StabilitySumsModel" "thrown" "I") ∈ UW := uw_at 696 (by decide +kernel) rfl
theorem uw_697 : (Jvm.Cond.fieldLink "StabilitySumsModel" (97 : Nat) "StabilitySumsModel" "weights" "I") ∈ UW := uw_at 697 (by decide +kernel) rfl
theorem uw_698 : (Jvm.Cond.fieldLink "StabilitySumsModel" (7 : Nat) "StabilitySumsModel" "kg" "[J") ∈ UW := uw_at 698 (by decide +kernel) rfl
theorem uw_699 : (Jvm.Cond.fieldLink "StabilitySumsModel" (13 : Nat) "StabilitySumsModel" "wx" "[J") ∈ UW := uw_at 699 (by decide +kernel) rfl
theorem uw_700 : (Jvm.Cond.fieldLink "StabilitySumsModel" (16 : Nat) "StabilitySumsModel" "wy" "[J") ∈ UW := uw_at 700 (by decide +kernel) rfl
theorem uw_701 : (Jvm.Cond.fieldLink "StabilitySumsModel" (19 : Nat) "StabilitySumsModel" "wz" "[J") ∈ UW := uw_at 701 (by decide +kernel) rfl
theorem uw_702 : (Jvm.Cond.fieldLink "StabilitySumsModel" (100 : Nat) "StabilitySumsModel" "tanks" "I") ∈ UW := uw_at 702 (by decide +kernel) rfl
theorem uw_703 : (Jvm.Cond.fieldLink "StabilitySumsModel" (22 : Nat) "StabilitySumsModel" "most" "[J") ∈ UW := uw_at 703 (by decide +kernel) rfl
theorem uw_704 : (Jvm.Cond.fieldLink "StabilitySumsModel" (25 : Nat) "StabilitySumsModel" "surface" "[J") ∈ UW := uw_at 704 (by decide +kernel) rfl
theorem uw_705 : (Jvm.Cond.fieldLink "StabilitySumsModel" (28 : Nat) "StabilitySumsModel" "tx" "[J") ∈ UW := uw_at 705 (by decide +kernel) rfl
theorem uw_706 : (Jvm.Cond.fieldLink "StabilitySumsModel" (31 : Nat) "StabilitySumsModel" "ty" "[J") ∈ UW := uw_at 706 (by decide +kernel) rfl
theorem uw_707 : (Jvm.Cond.fieldLink "StabilitySumsModel" (34 : Nat) "StabilitySumsModel" "tz" "[J") ∈ UW := uw_at 707 (by decide +kernel) rfl
theorem uw_708 : (Jvm.Cond.fieldLink "StabilitySumsModel" (37 : Nat) "StabilitySumsModel" "full" "[J") ∈ UW := uw_at 708 (by decide +kernel) rfl
theorem uw_709 : (Jvm.Cond.fieldLink "StabilitySumsModel" (40 : Nat) "StabilitySumsModel" "nowKg" "[J") ∈ UW := uw_at 709 (by decide +kernel) rfl
theorem uw_710 : (Jvm.Cond.fieldLink "StabilitySumsModel" (43 : Nat) "StabilitySumsModel" "nowFull" "[J") ∈ UW := uw_at 710 (by decide +kernel) rfl
theorem uw_711 : (Jvm.Cond.fieldLink "StabilitySumsModel" (46 : Nat) "StabilitySumsModel" "bestFull" "[J") ∈ UW := uw_at 711 (by decide +kernel) rfl
theorem uw_712 : (Jvm.Cond.fieldLink "StabilitySumsModel" (103 : Nat) "StabilitySumsModel" "rows" "I") ∈ UW := uw_at 712 (by decide +kernel) rfl
theorem uw_713 : (Jvm.Cond.fieldLink "StabilitySumsModel" (49 : Nat) "StabilitySumsModel" "at" "[J") ∈ UW := uw_at 713 (by decide +kernel) rfl
theorem uw_714 : (Jvm.Cond.fieldLink "StabilitySumsModel" (52 : Nat) "StabilitySumsModel" "high" "[J") ∈ UW := uw_at 714 (by decide +kernel) rfl
theorem uw_715 : (Jvm.Cond.fieldLink "StabilitySumsModel" (55 : Nat) "StabilitySumsModel" "deep" "[J") ∈ UW := uw_at 715 (by decide +kernel) rfl
theorem uw_716 : (Jvm.Cond.fieldLink "StabilitySumsModel" (126 : Nat) "StabilitySumsModel" "left" "J") ∈ UW := uw_at 716 (by decide +kernel) rfl
theorem uw_717 : (Jvm.Cond.fieldLink "StabilitySumsModel" (60 : Nat) "StabilitySumsModel" "right" "J") ∈ UW := uw_at 717 (by decide +kernel) rfl
theorem uw_718 : (Jvm.Cond.fieldLink "StabilitySumsModel" (179 : Nat) "StabilitySumsModel" "limits" "I") ∈ UW := uw_at 718 (by decide +kernel) rfl
theorem uw_719 : (Jvm.Cond.fieldLink "StabilitySumsModel" (64 : Nat) "StabilitySumsModel" "of" "[I") ∈ UW := uw_at 719 (by decide +kernel) rfl
theorem uw_720 : (Jvm.Cond.fieldLink "StabilitySumsModel" (68 : Nat) "StabilitySumsModel" "cut" "[J") ∈ UW := uw_at 720 (by decide +kernel) rfl
theorem uw_721 : (Jvm.Cond.fieldLink "StabilitySumsModel" (71 : Nat) "StabilitySumsModel" "low" "[J") ∈ UW := uw_at 721 (by decide +kernel) rfl
theorem uw_722 : (Jvm.Cond.fieldLink "StabilitySumsModel" (74 : Nat) "StabilitySumsModel" "top" "[J") ∈ UW := uw_at 722 (by decide +kernel) rfl
theorem uw_723 : (Jvm.Cond.fieldLink "StabilitySumsModel" (194 : Nat) "StabilitySumsModel" "steps" "I") ∈ UW := uw_at 723 (by decide +kernel) rfl
theorem uw_724 : (Jvm.Cond.fieldLink "StabilitySumsModel" (77 : Nat) "StabilitySumsModel" "isTank" "[Z") ∈ UW := uw_at 724 (by decide +kernel) rfl
theorem uw_725 : (Jvm.Cond.fieldLink "StabilitySumsModel" (81 : Nat) "StabilitySumsModel" "which" "[I") ∈ UW := uw_at 725 (by decide +kernel) rfl
theorem uw_726 : (Jvm.Cond.fieldLink "StabilitySumsModel" (84 : Nat) "StabilitySumsModel" "much" "[J") ∈ UW := uw_at 726 (by decide +kernel) rfl
theorem uw_727 : (Jvm.Cond.fieldLink "StabilitySumsModel" (106 : Nat) "StabilitySumsModel" "up" "J") ∈ UW := uw_at 727 (by decide +kernel) rfl
theorem uw_728 : (Jvm.Cond.fieldLink "StabilitySumsModel" (109 : Nat) "StabilitySumsModel" "down" "J") ∈ UW := uw_at 728 (by decide +kernel) rfl
theorem uw_729 : (Jvm.Cond.lays "StabilitySumsModel" "StabilitySumsModel" "thrown" "I") ∈ UW := uw_at 729 (by decide +kernel) rfl
theorem uw_731 : (Jvm.Cond.lays "StabilitySumsModel" "StabilitySumsModel" "weights" "I") ∈ UW := uw_at 731 (by decide +kernel) rfl
theorem uw_733 : (Jvm.Cond.laysFinal "StabilitySumsModel" "StabilitySumsModel" "kg" "[J") ∈ UW := uw_at 733 (by decide +kernel) rfl
theorem uw_735 : (Jvm.Cond.laysFinal "StabilitySumsModel" "StabilitySumsModel" "wx" "[J") ∈ UW := uw_at 735 (by decide +kernel) rfl
theorem uw_737 : (Jvm.Cond.laysFinal "StabilitySumsModel" "StabilitySumsModel" "wy" "[J") ∈ UW := uw_at 737 (by decide +kernel) rfl
theorem uw_739 : (Jvm.Cond.laysFinal "StabilitySumsModel" "StabilitySumsModel" "wz" "[J") ∈ UW := uw_at 739 (by decide +kernel) rfl
theorem uw_741 : (Jvm.Cond.lays "StabilitySumsModel" "StabilitySumsModel" "tanks" "I") ∈ UW := uw_at 741 (by decide +kernel) rfl
theorem uw_743 : (Jvm.Cond.laysFinal "StabilitySumsModel" "StabilitySumsModel" "most" "[J") ∈ UW := uw_at 743 (by decide +kernel) rfl
theorem uw_745 : (Jvm.Cond.laysFinal "StabilitySumsModel" "StabilitySumsModel" "surface" "[J") ∈ UW := uw_at 745 (by decide +kernel) rfl
theorem uw_747 : (Jvm.Cond.laysFinal "StabilitySumsModel" "StabilitySumsModel" "tx" "[J") ∈ UW := uw_at 747 (by decide +kernel) rfl
theorem uw_749 : (Jvm.Cond.laysFinal "StabilitySumsModel" "StabilitySumsModel" "ty" "[J") ∈ UW := uw_at 749 (by decide +kernel) rfl
theorem uw_751 : (Jvm.Cond.laysFinal "StabilitySumsModel" "StabilitySumsModel" "tz" "[J") ∈ UW := uw_at 751 (by decide +kernel) rfl
theorem uw_753 : (Jvm.Cond.laysFinal "StabilitySumsModel" "StabilitySumsModel" "full" "[J") ∈ UW := uw_at 753 (by decide +kernel) rfl
theorem uw_755 : (Jvm.Cond.laysFinal "StabilitySumsModel" "StabilitySumsModel" "nowKg" "[J") ∈ UW := uw_at 755 (by decide +kernel) rfl
theorem uw_757 : (Jvm.Cond.laysFinal "StabilitySumsModel" "StabilitySumsModel" "nowFull" "[J") ∈ UW := uw_at 757 (by decide +kernel) rfl
theorem uw_759 : (Jvm.Cond.laysFinal "StabilitySumsModel" "StabilitySumsModel" "bestFull" "[J") ∈ UW := uw_at 759 (by decide +kernel) rfl
theorem uw_761 : (Jvm.Cond.lays "StabilitySumsModel" "StabilitySumsModel" "rows" "I") ∈ UW := uw_at 761 (by decide +kernel) rfl
theorem uw_763 : (Jvm.Cond.laysFinal "StabilitySumsModel" "StabilitySumsModel" "at" "[J") ∈ UW := uw_at 763 (by decide +kernel) rfl
theorem uw_765 : (Jvm.Cond.laysFinal "StabilitySumsModel" "StabilitySumsModel" "high" "[J") ∈ UW := uw_at 765 (by decide +kernel) rfl
theorem uw_767 : (Jvm.Cond.laysFinal "StabilitySumsModel" "StabilitySumsModel" "deep" "[J") ∈ UW := uw_at 767 (by decide +kernel) rfl
theorem uw_769 : (Jvm.Cond.lays "StabilitySumsModel" "StabilitySumsModel" "left" "J") ∈ UW := uw_at 769 (by decide +kernel) rfl
theorem uw_771 : (Jvm.Cond.lays "StabilitySumsModel" "StabilitySumsModel" "right" "J") ∈ UW := uw_at 771 (by decide +kernel) rfl
theorem uw_773 : (Jvm.Cond.lays "StabilitySumsModel" "StabilitySumsModel" "limits" "I") ∈ UW := uw_at 773 (by decide +kernel) rfl
theorem uw_775 : (Jvm.Cond.laysFinal "StabilitySumsModel" "StabilitySumsModel" "of" "[I") ∈ UW := uw_at 775 (by decide +kernel) rfl
theorem uw_777 : (Jvm.Cond.laysFinal "StabilitySumsModel" "StabilitySumsModel" "cut" "[J") ∈ UW := uw_at 777 (by decide +kernel) rfl
theorem uw_779 : (Jvm.Cond.laysFinal "StabilitySumsModel" "StabilitySumsModel" "low" "[J") ∈ UW := uw_at 779 (by decide +kernel) rfl
theorem uw_781 : (Jvm.Cond.laysFinal "StabilitySumsModel" "StabilitySumsModel" "top" "[J") ∈ UW := uw_at 781 (by decide +kernel) rfl
theorem uw_783 : (Jvm.Cond.lays "StabilitySumsModel" "StabilitySumsModel" "steps" "I") ∈ UW := uw_at 783 (by decide +kernel) rfl
theorem uw_785 : (Jvm.Cond.laysFinal "StabilitySumsModel" "StabilitySumsModel" "isTank" "[Z") ∈ UW := uw_at 785 (by decide +kernel) rfl
theorem uw_787 : (Jvm.Cond.laysFinal "StabilitySumsModel" "StabilitySumsModel" "which" "[I") ∈ UW := uw_at 787 (by decide +kernel) rfl
theorem uw_789 : (Jvm.Cond.laysFinal "StabilitySumsModel" "StabilitySumsModel" "much" "[J") ∈ UW := uw_at 789 (by decide +kernel) rfl
theorem uw_791 : (Jvm.Cond.lays "StabilitySumsModel" "StabilitySumsModel" "up" "J") ∈ UW := uw_at 791 (by decide +kernel) rfl
theorem uw_793 : (Jvm.Cond.lays "StabilitySumsModel" "StabilitySumsModel" "down" "J") ∈ UW := uw_at 793 (by decide +kernel) rfl
theorem uw_796 : (Jvm.Cond.methodLink "StabilitySumsLaw" (72 : Nat) ({ cls := "StabilitySumsModel", name := "thrown", desc := "()I" } : Jvm.MethodName)) ∈ UW := uw_at 796 (by decide +kernel) rfl
theorem uw_797 : (Jvm.Cond.instanceMethod ({ cls := "StabilitySumsModel", name := "thrown", desc := "()I" } : Jvm.MethodName)) ∈ UW := uw_at 797 (by decide +kernel) rfl
theorem uw_798 : (Jvm.Cond.selects "StabilitySumsModel" ({ cls := "StabilitySumsModel", name := "thrown", desc := "()I" } : Jvm.MethodName) ({ cls := "StabilitySumsModel", name := "thrown", desc := "()I" } : Jvm.MethodName)) ∈ UW := uw_at 798 (by decide +kernel) rfl
set_option maxRecDepth 100000 in
theorem uw_799 : (Jvm.Cond.code ({ cls := "StabilitySumsModel", name := "thrown", desc := "()I" } : Jvm.MethodName) prog_11_method_2_code (1 : Nat) (Option.some Jvm.ClassFile.FieldType.int)) ∈ UW := uw_at 799 rfl rfl
theorem uw_800 : (Jvm.Cond.methodLink "StabilitySumsLaw" (96 : Nat) ({ cls := "StabilitySumsModel", name := "value", desc := "(II)J" } : Jvm.MethodName)) ∈ UW := uw_at 800 (by decide +kernel) rfl
theorem uw_801 : (Jvm.Cond.instanceMethod ({ cls := "StabilitySumsModel", name := "value", desc := "(II)J" } : Jvm.MethodName)) ∈ UW := uw_at 801 (by decide +kernel) rfl
theorem uw_802 : (Jvm.Cond.selects "StabilitySumsModel" ({ cls := "StabilitySumsModel", name := "value", desc := "(II)J" } : Jvm.MethodName) ({ cls := "StabilitySumsModel", name := "value", desc := "(II)J" } : Jvm.MethodName)) ∈ UW := uw_at 802 (by decide +kernel) rfl
set_option maxRecDepth 100000 in
theorem uw_803 : (Jvm.Cond.code ({ cls := "StabilitySumsModel", name := "value", desc := "(II)J" } : Jvm.MethodName) prog_11_method_14_code (5 : Nat) (Option.some Jvm.ClassFile.FieldType.long)) ∈ UW := uw_at 803 rfl rfl
theorem uw_804 : (Jvm.Cond.methodLink "StabilitySumsModel" (129 : Nat) ({ cls := "StabilitySumsModel", name := "present", desc := "()V" } : Jvm.MethodName)) ∈ UW := uw_at 804 (by decide +kernel) rfl
theorem uw_806 : (Jvm.Cond.instanceMethod ({ cls := "StabilitySumsModel", name := "present", desc := "()V" } : Jvm.MethodName)) ∈ UW := uw_at 806 (by decide +kernel) rfl
set_option maxRecDepth 100000 in
theorem uw_807 : (Jvm.Cond.code ({ cls := "StabilitySumsModel", name := "present", desc := "()V" } : Jvm.MethodName) prog_11_method_7_code (2 : Nat) (Option.none : Option Jvm.ClassFile.FieldType)) ∈ UW := uw_at 807 rfl rfl
theorem uw_808 : (Jvm.Cond.methodLink "StabilitySumsModel" (132 : Nat) ({ cls := "StabilitySumsModel", name := "divides", desc := "(I)Z" } : Jvm.MethodName)) ∈ UW := uw_at 808 (by decide +kernel) rfl
theorem uw_809 : (Jvm.Cond.static ({ cls := "StabilitySumsModel", name := "divides", desc := "(I)Z" } : Jvm.MethodName)) ∈ UW := uw_at 809 (by decide +kernel) rfl
set_option maxRecDepth 100000 in
theorem uw_810 : (Jvm.Cond.code ({ cls := "StabilitySumsModel", name := "divides", desc := "(I)Z" } : Jvm.MethodName) prog_11_method_11_code (1 : Nat) (Option.some Jvm.ClassFile.FieldType.boolean)) ∈ UW := uw_at 810 rfl rfl
theorem uw_811 : (Jvm.Cond.methodLink "StabilitySumsModel" (112 : Nat) ({ cls := "StabilitySumsModel", name := "sum", desc := "(I)J" } : Jvm.MethodName)) ∈ UW := uw_at 811 (by decide +kernel) rfl
theorem uw_813 : (Jvm.Cond.instanceMethod ({ cls := "StabilitySumsModel", name := "sum", desc := "(I)J" } : Jvm.MethodName)) ∈ UW := uw_at 813 (by decide +kernel) rfl
set_option maxRecDepth 100000 in
theorem uw_814 : (Jvm.Cond.code ({ cls := "StabilitySumsModel", name := "sum", desc := "(I)J" } : Jvm.MethodName) prog_11_method_8_code (5 : Nat) (Option.some Jvm.ClassFile.FieldType.long)) ∈ UW := uw_at 814 rfl rfl
theorem uw_815 : (Jvm.Cond.methodLink "StabilitySumsModel" (136 : Nat) ({ cls := "StabilitySumsModel", name := "reckon", desc := "(I)V" } : Jvm.MethodName)) ∈ UW := uw_at 815 (by decide +kernel) rfl
theorem uw_817 : (Jvm.Cond.instanceMethod ({ cls := "StabilitySumsModel", name := "reckon", desc := "(I)V" } : Jvm.MethodName)) ∈ UW := uw_at 817 (by decide +kernel) rfl
set_option maxRecDepth 100000 in
theorem uw_818 : (Jvm.Cond.code ({ cls := "StabilitySumsModel", name := "reckon", desc := "(I)V" } : Jvm.MethodName) prog_11_method_12_code (4 : Nat) (Option.none : Option Jvm.ClassFile.FieldType)) ∈ UW := uw_at 818 rfl rfl
theorem uw_819 : (Jvm.Cond.methodLink "StabilitySumsModel" (116 : Nat) ({ cls := "StabilitySumsModel", name := "free", desc := "()J" } : Jvm.MethodName)) ∈ UW := uw_at 819 (by decide +kernel) rfl
theorem uw_821 : (Jvm.Cond.instanceMethod ({ cls := "StabilitySumsModel", name := "free", desc := "()J" } : Jvm.MethodName)) ∈ UW := uw_at 821 (by decide +kernel) rfl
set_option maxRecDepth 100000 in
theorem uw_822 : (Jvm.Cond.code ({ cls := "StabilitySumsModel", name := "free", desc := "()J" } : Jvm.MethodName) prog_11_method_9_code (4 : Nat) (Option.some Jvm.ClassFile.FieldType.long)) ∈ UW := uw_at 822 rfl rfl
theorem uw_823 : (Jvm.Cond.methodLink "StabilitySumsModel" (120 : Nat) ({ cls := "StabilitySumsModel", name := "table", desc := "(JZ)V" } : Jvm.MethodName)) ∈ UW := uw_at 823 (by decide +kernel) rfl
theorem uw_825 : (Jvm.Cond.instanceMethod ({ cls := "StabilitySumsModel", name := "table", desc := "(JZ)V" } : Jvm.MethodName)) ∈ UW := uw_at 825 (by decide +kernel) rfl
set_option maxRecDepth 100000 in
theorem uw_826 : (Jvm.Cond.code ({ cls := "StabilitySumsModel", name := "table", desc := "(JZ)V" } : Jvm.MethodName) prog_11_method_10_code (11 : Nat) (Option.none : Option Jvm.ClassFile.FieldType)) ∈ UW := uw_at 826 rfl rfl
theorem uw_827 : (Jvm.Cond.constantLong "StabilitySumsModel" (124 : Nat) (2 : Int64)) ∈ UW := uw_at 827 (by decide +kernel) rfl
theorem uw_828 : (Jvm.Cond.methodLink "StabilitySumsModel" (140 : Nat) ({ cls := "StabilitySumsModel", name := "common", desc := "(JJ)J" } : Jvm.MethodName)) ∈ UW := uw_at 828 (by decide +kernel) rfl
theorem uw_829 : (Jvm.Cond.static ({ cls := "StabilitySumsModel", name := "common", desc := "(JJ)J" } : Jvm.MethodName)) ∈ UW := uw_at 829 (by decide +kernel) rfl
set_option maxRecDepth 100000 in
theorem uw_830 : (Jvm.Cond.code ({ cls := "StabilitySumsModel", name := "common", desc := "(JJ)J" } : Jvm.MethodName) prog_11_method_13_code (10 : Nat) (Option.some Jvm.ClassFile.FieldType.long)) ∈ UW := uw_at 830 rfl rfl
theorem uw_831 : (Jvm.Cond.methodLink "StabilitySumsModel" (144 : Nat) ({ cls := "StabilitySumsModel", name := "floor", desc := "(JJ)J" } : Jvm.MethodName)) ∈ UW := uw_at 831 (by decide +kernel) rfl
theorem uw_832 : (Jvm.Cond.static ({ cls := "StabilitySumsModel", name := "floor", desc := "(JJ)J" } : Jvm.MethodName)) ∈ UW := uw_at 832 (by decide +kernel) rfl
set_option maxRecDepth 100000 in
theorem uw_833 : (Jvm.Cond.code ({ cls := "StabilitySumsModel", name := "floor", desc := "(JJ)J" } : Jvm.MethodName) prog_11_method_6_code (6 : Nat) (Option.some Jvm.ClassFile.FieldType.long)) ∈ UW := uw_at 833 rfl rfl
theorem uw_834 : (Jvm.Cond.methodLink "StabilitySumsLaw" (100 : Nat) ({ cls := "StabilitySumsModel", name := "shear", desc := "(J)J" } : Jvm.MethodName)) ∈ UW := uw_at 834 (by decide +kernel) rfl
theorem uw_835 : (Jvm.Cond.instanceMethod ({ cls := "StabilitySumsModel", name := "shear", desc := "(J)J" } : Jvm.MethodName)) ∈ UW := uw_at 835 (by decide +kernel) rfl
theorem uw_836 : (Jvm.Cond.selects "StabilitySumsModel" ({ cls := "StabilitySumsModel", name := "shear", desc := "(J)J" } : Jvm.MethodName) ({ cls := "StabilitySumsModel", name := "shear", desc := "(J)J" } : Jvm.MethodName)) ∈ UW := uw_at 836 (by decide +kernel) rfl
set_option maxRecDepth 100000 in
theorem uw_837 : (Jvm.Cond.code ({ cls := "StabilitySumsModel", name := "shear", desc := "(J)J" } : Jvm.MethodName) prog_11_method_17_code (3 : Nat) (Option.some Jvm.ClassFile.FieldType.long)) ∈ UW := uw_at 837 rfl rfl
theorem uw_838 : (Jvm.Cond.methodLink "StabilitySumsModel" (147 : Nat) ({ cls := "StabilitySumsModel", name := "isPlace", desc := "(J)Z" } : Jvm.MethodName)) ∈ UW := uw_at 838 (by decide +kernel) rfl
theorem uw_839 : (Jvm.Cond.static ({ cls := "StabilitySumsModel", name := "isPlace", desc := "(J)Z" } : Jvm.MethodName)) ∈ UW := uw_at 839 (by decide +kernel) rfl
set_option maxRecDepth 100000 in
theorem uw_840 : (Jvm.Cond.code ({ cls := "StabilitySumsModel", name := "isPlace", desc := "(J)Z" } : Jvm.MethodName) prog_11_method_5_code (2 : Nat) (Option.some Jvm.ClassFile.FieldType.boolean)) ∈ UW := uw_at 840 rfl rfl
theorem uw_841 : (Jvm.Cond.constantLong "StabilitySumsModel" (91 : Nat) (-10000 : Int64)) ∈ UW := uw_at 841 (by decide +kernel) rfl
theorem uw_842 : (Jvm.Cond.methodLink "StabilitySumsModel" (93 : Nat) ({ cls := "StabilitySumsModel", name := "in", desc := "(JJJ)Z" } : Jvm.MethodName)) ∈ UW := uw_at 842 (by decide +kernel) rfl
theorem uw_843 : (Jvm.Cond.static ({ cls := "StabilitySumsModel", name := "in", desc := "(JJJ)Z" } : Jvm.MethodName)) ∈ UW := uw_at 843 (by decide +kernel) rfl
set_option maxRecDepth 100000 in
theorem uw_844 : (Jvm.Cond.code ({ cls := "StabilitySumsModel", name := "in", desc := "(JJJ)Z" } : Jvm.MethodName) prog_11_method_4_code (6 : Nat) (Option.some Jvm.ClassFile.FieldType.boolean)) ∈ UW := uw_at 844 rfl rfl
theorem uw_845 : (Jvm.Cond.methodLink "StabilitySumsModel" (151 : Nat) ({ cls := "StabilitySumsModel", name := "fails", desc := "(I)I" } : Jvm.MethodName)) ∈ UW := uw_at 845 (by decide +kernel) rfl
theorem uw_847 : (Jvm.Cond.instanceMethod ({ cls := "StabilitySumsModel", name := "fails", desc := "(I)I" } : Jvm.MethodName)) ∈ UW := uw_at 847 (by decide +kernel) rfl
set_option maxRecDepth 100000 in
theorem uw_848 : (Jvm.Cond.code ({ cls := "StabilitySumsModel", name := "fails", desc := "(I)I" } : Jvm.MethodName) prog_11_method_3_code (2 : Nat) (Option.some Jvm.ClassFile.FieldType.int)) ∈ UW := uw_at 848 rfl rfl
theorem uw_849 : (Jvm.Cond.methodLink "StabilitySumsModel" (155 : Nat) ({ cls := "StabilitySumsModel", name := "shearAt", desc := "(J)J" } : Jvm.MethodName)) ∈ UW := uw_at 849 (by decide +kernel) rfl
theorem uw_851 : (Jvm.Cond.instanceMethod ({ cls := "StabilitySumsModel", name := "shearAt", desc := "(J)J" } : Jvm.MethodName)) ∈ UW := uw_at 851 (by decide +kernel) rfl
set_option maxRecDepth 100000 in
theorem uw_852 : (Jvm.Cond.code ({ cls := "StabilitySumsModel", name := "shearAt", desc := "(J)J" } : Jvm.MethodName) prog_11_method_15_code (7 : Nat) (Option.some Jvm.ClassFile.FieldType.long)) ∈ UW := uw_at 852 rfl rfl
theorem uw_853 : (Jvm.Cond.methodLink "StabilitySumsLaw" (103 : Nat) ({ cls := "StabilitySumsModel", name := "bending", desc := "(J)J" } : Jvm.MethodName)) ∈ UW := uw_at 853 (by decide +kernel) rfl
theorem uw_854 : (Jvm.Cond.instanceMethod ({ cls := "StabilitySumsModel", name := "bending", desc := "(J)J" } : Jvm.MethodName)) ∈ UW := uw_at 854 (by decide +kernel) rfl
theorem uw_855 : (Jvm.Cond.selects "StabilitySumsModel" ({ cls := "StabilitySumsModel", name := "bending", desc := "(J)J" } : Jvm.MethodName) ({ cls := "StabilitySumsModel", name := "bending", desc := "(J)J" } : Jvm.MethodName)) ∈ UW := uw_at 855 (by decide +kernel) rfl
set_option maxRecDepth 100000 in
theorem uw_856 : (Jvm.Cond.code ({ cls := "StabilitySumsModel", name := "bending", desc := "(J)J" } : Jvm.MethodName) prog_11_method_18_code (3 : Nat) (Option.some Jvm.ClassFile.FieldType.long)) ∈ UW := uw_at 856 rfl rfl
theorem uw_857 : (Jvm.Cond.methodLink "StabilitySumsModel" (159 : Nat) ({ cls := "StabilitySumsModel", name := "bendingAt", desc := "(J)J" } : Jvm.MethodName)) ∈ UW := uw_at 857 (by decide +kernel) rfl
theorem uw_859 : (Jvm.Cond.instanceMethod ({ cls := "StabilitySumsModel", name := "bendingAt", desc := "(J)J" } : Jvm.MethodName)) ∈ UW := uw_at 859 (by decide +kernel) rfl
set_option maxRecDepth 100000 in
theorem uw_860 : (Jvm.Cond.code ({ cls := "StabilitySumsModel", name := "bendingAt", desc := "(J)J" } : Jvm.MethodName) prog_11_method_16_code (7 : Nat) (Option.some Jvm.ClassFile.FieldType.long)) ∈ UW := uw_at 860 rfl rfl
theorem uw_861 : (Jvm.Cond.methodLink "StabilitySumsLaw" (71 : Nat) ({ cls := "StabilitySumsModel", name := "weight", desc := "(JJJJ)I" } : Jvm.MethodName)) ∈ UW := uw_at 861 (by decide +kernel) rfl
theorem uw_862 : (Jvm.Cond.instanceMethod ({ cls := "StabilitySumsModel", name := "weight", desc := "(JJJJ)I" } : Jvm.MethodName)) ∈ UW := uw_at 862 (by decide +kernel) rfl
theorem uw_863 : (Jvm.Cond.selects "StabilitySumsModel" ({ cls := "StabilitySumsModel", name := "weight", desc := "(JJJJ)I" } : Jvm.MethodName) ({ cls := "StabilitySumsModel", name := "weight", desc := "(JJJJ)I" } : Jvm.MethodName)) ∈ UW := uw_at 863 (by decide +kernel) rfl
set_option maxRecDepth 100000 in
theorem uw_864 : (Jvm.Cond.code ({ cls := "StabilitySumsModel", name := "weight", desc := "(JJJJ)I" } : Jvm.MethodName) prog_11_method_19_code (9 : Nat) (Option.some Jvm.ClassFile.FieldType.int)) ∈ UW := uw_at 864 rfl rfl
theorem uw_865 : (Jvm.Cond.constantLong "StabilitySumsModel" (162 : Nat) (-100000 : Int64)) ∈ UW := uw_at 865 (by decide +kernel) rfl
theorem uw_866 : (Jvm.Cond.constantLong "StabilitySumsModel" (164 : Nat) (100000 : Int64)) ∈ UW := uw_at 866 (by decide +kernel) rfl
theorem uw_867 : (Jvm.Cond.methodLink "StabilitySumsLaw" (79 : Nat) ({ cls := "StabilitySumsModel", name := "tank", desc := "(JJJJJ)I" } : Jvm.MethodName)) ∈ UW := uw_at 867 (by decide +kernel) rfl
theorem uw_868 : (Jvm.Cond.instanceMethod ({ cls := "StabilitySumsModel", name := "tank", desc := "(JJJJJ)I" } : Jvm.MethodName)) ∈ UW := uw_at 868 (by decide +kernel) rfl
theorem uw_869 : (Jvm.Cond.selects "StabilitySumsModel" ({ cls := "StabilitySumsModel", name := "tank", desc := "(JJJJJ)I" } : Jvm.MethodName) ({ cls := "StabilitySumsModel", name := "tank", desc := "(JJJJJ)I" } : Jvm.MethodName)) ∈ UW := uw_at 869 (by decide +kernel) rfl
set_option maxRecDepth 100000 in
theorem uw_870 : (Jvm.Cond.code ({ cls := "StabilitySumsModel", name := "tank", desc := "(JJJJJ)I" } : Jvm.MethodName) prog_11_method_20_code (11 : Nat) (Option.some Jvm.ClassFile.FieldType.int)) ∈ UW := uw_at 870 rfl rfl
theorem uw_871 : (Jvm.Cond.constantLong "StabilitySumsModel" (166 : Nat) (4 : Int64)) ∈ UW := uw_at 871 (by decide +kernel) rfl
theorem uw_872 : (Jvm.Cond.constantLong "StabilitySumsModel" (168 : Nat) (40000 : Int64)) ∈ UW := uw_at 872 (by decide +kernel) rfl
theorem uw_873 : (Jvm.Cond.constantLong "StabilitySumsModel" (170 : Nat) (1000000000 : Int64)) ∈ UW := uw_at 873 (by decide +kernel) rfl
theorem uw_874 : (Jvm.Cond.methodLink "StabilitySumsLaw" (83 : Nat) ({ cls := "StabilitySumsModel", name := "filled", desc := "(IJ)I" } : Jvm.MethodName)) ∈ UW := uw_at 874 (by decide +kernel) rfl
theorem uw_875 : (Jvm.Cond.instanceMethod ({ cls := "StabilitySumsModel", name := "filled", desc := "(IJ)I" } : Jvm.MethodName)) ∈ UW := uw_at 875 (by decide +kernel) rfl
theorem uw_876 : (Jvm.Cond.selects "StabilitySumsModel" ({ cls := "StabilitySumsModel", name := "filled", desc := "(IJ)I" } : Jvm.MethodName) ({ cls := "StabilitySumsModel", name := "filled", desc := "(IJ)I" } : Jvm.MethodName)) ∈ UW := uw_at 876 (by decide +kernel) rfl
set_option maxRecDepth 100000 in
theorem uw_877 : (Jvm.Cond.code ({ cls := "StabilitySumsModel", name := "filled", desc := "(IJ)I" } : Jvm.MethodName) prog_11_method_22_code (4 : Nat) (Option.some Jvm.ClassFile.FieldType.int)) ∈ UW := uw_at 877 rfl rfl
theorem uw_878 : (Jvm.Cond.methodLink "StabilitySumsModel" (172 : Nat) ({ cls := "StabilitySumsModel", name := "isTankThere", desc := "(I)Z" } : Jvm.MethodName)) ∈ UW := uw_at 878 (by decide +kernel) rfl
theorem uw_880 : (Jvm.Cond.instanceMethod ({ cls := "StabilitySumsModel", name := "isTankThere", desc := "(I)Z" } : Jvm.MethodName)) ∈ UW := uw_at 880 (by decide +kernel) rfl
set_option maxRecDepth 100000 in
theorem uw_881 : (Jvm.Cond.code ({ cls := "StabilitySumsModel", name := "isTankThere", desc := "(I)Z" } : Jvm.MethodName) prog_11_method_21_code (2 : Nat) (Option.some Jvm.ClassFile.FieldType.boolean)) ∈ UW := uw_at 881 rfl rfl
theorem uw_882 : (Jvm.Cond.methodLink "StabilitySumsLaw" (87 : Nat) ({ cls := "StabilitySumsModel", name := "hydro", desc := "(JJJ)I" } : Jvm.MethodName)) ∈ UW := uw_at 882 (by decide +kernel) rfl
theorem uw_883 : (Jvm.Cond.instanceMethod ({ cls := "StabilitySumsModel", name := "hydro", desc := "(JJJ)I" } : Jvm.MethodName)) ∈ UW := uw_at 883 (by decide +kernel) rfl
theorem uw_884 : (Jvm.Cond.selects "StabilitySumsModel" ({ cls := "StabilitySumsModel", name := "hydro", desc := "(JJJ)I" } : Jvm.MethodName) ({ cls := "StabilitySumsModel", name := "hydro", desc := "(JJJ)I" } : Jvm.MethodName)) ∈ UW := uw_at 884 (by decide +kernel) rfl
set_option maxRecDepth 100000 in
theorem uw_885 : (Jvm.Cond.code ({ cls := "StabilitySumsModel", name := "hydro", desc := "(JJJ)I" } : Jvm.MethodName) prog_11_method_23_code (7 : Nat) (Option.some Jvm.ClassFile.FieldType.int)) ∈ UW := uw_at 885 rfl rfl
theorem uw_886 : (Jvm.Cond.constantLong "StabilitySumsModel" (175 : Nat) (5000000 : Int64)) ∈ UW := uw_at 886 (by decide +kernel) rfl
theorem uw_887 : (Jvm.Cond.methodLink "StabilitySumsLaw" (92 : Nat) ({ cls := "StabilitySumsModel", name := "hull", desc := "(JJ)Z" } : Jvm.MethodName)) ∈ UW := uw_at 887 (by decide +kernel) rfl
theorem uw_888 : (Jvm.Cond.instanceMethod ({ cls := "StabilitySumsModel", name := "hull", desc := "(JJ)Z" } : Jvm.MethodName)) ∈ UW := uw_at 888 (by decide +kernel) rfl
theorem uw_889 : (Jvm.Cond.selects "StabilitySumsModel" ({ cls := "StabilitySumsModel", name := "hull", desc := "(JJ)Z" } : Jvm.MethodName) ({ cls := "StabilitySumsModel", name := "hull", desc := "(JJ)Z" } : Jvm.MethodName)) ∈ UW := uw_at 889 (by decide +kernel) rfl
set_option maxRecDepth 100000 in
theorem uw_890 : (Jvm.Cond.code ({ cls := "StabilitySumsModel", name := "hull", desc := "(JJ)Z" } : Jvm.MethodName) prog_11_method_24_code (5 : Nat) (Option.some Jvm.ClassFile.FieldType.boolean)) ∈ UW := uw_at 890 rfl rfl
theorem uw_891 : (Jvm.Cond.methodLink "StabilitySumsLaw" (107 : Nat) ({ cls := "StabilitySumsModel", name := "limit", desc := "(IJJJ)I" } : Jvm.MethodName)) ∈ UW := uw_at 891 (by decide +kernel) rfl
theorem uw_892 : (Jvm.Cond.instanceMethod ({ cls := "StabilitySumsModel", name := "limit", desc := "(IJJJ)I" } : Jvm.MethodName)) ∈ UW := uw_at 892 (by decide +kernel) rfl
theorem uw_893 : (Jvm.Cond.selects "StabilitySumsModel" ({ cls := "StabilitySumsModel", name := "limit", desc := "(IJJJ)I" } : Jvm.MethodName) ({ cls := "StabilitySumsModel", name := "limit", desc := "(IJJJ)I" } : Jvm.MethodName)) ∈ UW := uw_at 893 (by decide +kernel) rfl
set_option maxRecDepth 100000 in
theorem uw_894 : (Jvm.Cond.code ({ cls := "StabilitySumsModel", name := "limit", desc := "(IJJJ)I" } : Jvm.MethodName) prog_11_method_25_code (10 : Nat) (Option.some Jvm.ClassFile.FieldType.int)) ∈ UW := uw_at 894 rfl rfl
theorem uw_895 : (Jvm.Cond.constantLong "StabilitySumsModel" (177 : Nat) (10000000000000 : Int64)) ∈ UW := uw_at 895 (by decide +kernel) rfl
theorem uw_896 : (Jvm.Cond.methodLink "StabilitySumsLaw" (111 : Nat) ({ cls := "StabilitySumsModel", name := "check", desc := "()I" } : Jvm.MethodName)) ∈ UW := uw_at 896 (by decide +kernel) rfl
theorem uw_897 : (Jvm.Cond.instanceMethod ({ cls := "StabilitySumsModel", name := "check", desc := "()I" } : Jvm.MethodName)) ∈ UW := uw_at 897 (by decide +kernel) rfl
theorem uw_898 : (Jvm.Cond.selects "StabilitySumsModel" ({ cls := "StabilitySumsModel", name := "check", desc := "()I" } : Jvm.MethodName) ({ cls := "StabilitySumsModel", name := "check", desc := "()I" } : Jvm.MethodName)) ∈ UW := uw_at 898 (by decide +kernel) rfl
set_option maxRecDepth 100000 in
theorem uw_899 : (Jvm.Cond.code ({ cls := "StabilitySumsModel", name := "check", desc := "()I" } : Jvm.MethodName) prog_11_method_28_code (1 : Nat) (Option.some Jvm.ClassFile.FieldType.int)) ∈ UW := uw_at 899 rfl rfl
theorem uw_900 : (Jvm.Cond.methodLink "StabilitySumsModel" (185 : Nat) ({ cls := "StabilitySumsModel", name := "broken0", desc := "()I" } : Jvm.MethodName)) ∈ UW := uw_at 900 (by decide +kernel) rfl
theorem uw_902 : (Jvm.Cond.instanceMethod ({ cls := "StabilitySumsModel", name := "broken0", desc := "()I" } : Jvm.MethodName)) ∈ UW := uw_at 902 (by decide +kernel) rfl
set_option maxRecDepth 100000 in
theorem uw_903 : (Jvm.Cond.code ({ cls := "StabilitySumsModel", name := "broken0", desc := "()I" } : Jvm.MethodName) prog_11_method_27_code (2 : Nat) (Option.some Jvm.ClassFile.FieldType.int)) ∈ UW := uw_at 903 rfl rfl
theorem uw_904 : (Jvm.Cond.methodLink "StabilitySumsModel" (182 : Nat) ({ cls := "StabilitySumsModel", name := "isBroken", desc := "(I)Z" } : Jvm.MethodName)) ∈ UW := uw_at 904 (by decide +kernel) rfl
theorem uw_906 : (Jvm.Cond.instanceMethod ({ cls := "StabilitySumsModel", name := "isBroken", desc := "(I)Z" } : Jvm.MethodName)) ∈ UW := uw_at 906 (by decide +kernel) rfl
set_option maxRecDepth 100000 in
theorem uw_907 : (Jvm.Cond.code ({ cls := "StabilitySumsModel", name := "isBroken", desc := "(I)Z" } : Jvm.MethodName) prog_11_method_26_code (6 : Nat) (Option.some Jvm.ClassFile.FieldType.boolean)) ∈ UW := uw_at 907 rfl rfl
theorem uw_908 : (Jvm.Cond.methodLink "StabilitySumsLaw" (116 : Nat) ({ cls := "StabilitySumsModel", name := "ballast", desc := "()J" } : Jvm.MethodName)) ∈ UW := uw_at 908 (by decide +kernel) rfl
theorem uw_909 : (Jvm.Cond.instanceMethod ({ cls := "StabilitySumsModel", name := "ballast", desc := "()J" } : Jvm.MethodName)) ∈ UW := uw_at 909 (by decide +kernel) rfl
theorem uw_910 : (Jvm.Cond.selects "StabilitySumsModel" ({ cls := "StabilitySumsModel", name := "ballast", desc := "()J" } : Jvm.MethodName) ({ cls := "StabilitySumsModel", name := "ballast", desc := "()J" } : Jvm.MethodName)) ∈ UW := uw_at 910 (by decide +kernel) rfl
set_option maxRecDepth 100000 in
theorem uw_911 : (Jvm.Cond.code ({ cls := "StabilitySumsModel", name := "ballast", desc := "()J" } : Jvm.MethodName) prog_11_method_30_code (1 : Nat) (Option.some Jvm.ClassFile.FieldType.long)) ∈ UW := uw_at 911 rfl rfl
theorem uw_912 : (Jvm.Cond.methodLink "StabilitySumsModel" (191 : Nat) ({ cls := "StabilitySumsModel", name := "pump", desc := "()J" } : Jvm.MethodName)) ∈ UW := uw_at 912 (by decide +kernel) rfl
theorem uw_914 : (Jvm.Cond.instanceMethod ({ cls := "StabilitySumsModel", name := "pump", desc := "()J" } : Jvm.MethodName)) ∈ UW := uw_at 914 (by decide +kernel) rfl
set_option maxRecDepth 100000 in
theorem uw_915 : (Jvm.Cond.code ({ cls := "StabilitySumsModel", name := "pump", desc := "()J" } : Jvm.MethodName) prog_11_method_29_code (12 : Nat) (Option.some Jvm.ClassFile.FieldType.long)) ∈ UW := uw_at 915 rfl rfl
theorem uw_916 : (Jvm.Cond.constantLong "StabilitySumsModel" (189 : Nat) (-1 : Int64)) ∈ UW := uw_at 916 (by decide +kernel) rfl
theorem uw_917 : (Jvm.Cond.methodLink "StabilitySumsLaw" (120 : Nat) ({ cls := "StabilitySumsModel", name := "fill", desc := "(I)J" } : Jvm.MethodName)) ∈ UW := uw_at 917 (by decide +kernel) rfl
theorem uw_918 : (Jvm.Cond.instanceMethod ({ cls := "StabilitySumsModel", name := "fill", desc := "(I)J" } : Jvm.MethodName)) ∈ UW := uw_at 918 (by decide +kernel) rfl
theorem uw_919 : (Jvm.Cond.selects "StabilitySumsModel" ({ cls := "StabilitySumsModel", name := "fill", desc := "(I)J" } : Jvm.MethodName) ({ cls := "StabilitySumsModel", name := "fill", desc := "(I)J" } : Jvm.MethodName)) ∈ UW := uw_at 919 (by decide +kernel) rfl
set_option maxRecDepth 100000 in
theorem uw_920 : (Jvm.Cond.code ({ cls := "StabilitySumsModel", name := "fill", desc := "(I)J" } : Jvm.MethodName) prog_11_method_31_code (2 : Nat) (Option.some Jvm.ClassFile.FieldType.long)) ∈ UW := uw_at 920 rfl rfl
theorem uw_921 : (Jvm.Cond.methodLink "StabilitySumsLaw" (124 : Nat) ({ cls := "StabilitySumsModel", name := "plan", desc := "(ZIJ)I" } : Jvm.MethodName)) ∈ UW := uw_at 921 (by decide +kernel) rfl
theorem uw_922 : (Jvm.Cond.instanceMethod ({ cls := "StabilitySumsModel", name := "plan", desc := "(ZIJ)I" } : Jvm.MethodName)) ∈ UW := uw_at 922 (by decide +kernel) rfl
theorem uw_923 : (Jvm.Cond.selects "StabilitySumsModel" ({ cls := "StabilitySumsModel", name := "plan", desc := "(ZIJ)I" } : Jvm.MethodName) ({ cls := "StabilitySumsModel", name := "plan", desc := "(ZIJ)I" } : Jvm.MethodName)) ∈ UW := uw_at 923 (by decide +kernel) rfl
set_option maxRecDepth 100000 in
theorem uw_924 : (Jvm.Cond.code ({ cls := "StabilitySumsModel", name := "plan", desc := "(ZIJ)I" } : Jvm.MethodName) prog_11_method_32_code (5 : Nat) (Option.some Jvm.ClassFile.FieldType.int)) ∈ UW := uw_at 924 rfl rfl
theorem uw_925 : (Jvm.Cond.methodLink "StabilitySumsLaw" (127 : Nat) ({ cls := "StabilitySumsModel", name := "step", desc := "(I)I" } : Jvm.MethodName)) ∈ UW := uw_at 925 (by decide +kernel) rfl
theorem uw_926 : (Jvm.Cond.instanceMethod ({ cls := "StabilitySumsModel", name := "step", desc := "(I)I" } : Jvm.MethodName)) ∈ UW := uw_at 926 (by decide +kernel) rfl
theorem uw_927 : (Jvm.Cond.selects "StabilitySumsModel" ({ cls := "StabilitySumsModel", name := "step", desc := "(I)I" } : Jvm.MethodName) ({ cls := "StabilitySumsModel", name := "step", desc := "(I)I" } : Jvm.MethodName)) ∈ UW := uw_at 927 (by decide +kernel) rfl
set_option maxRecDepth 100000 in
theorem uw_928 : (Jvm.Cond.code ({ cls := "StabilitySumsModel", name := "step", desc := "(I)I" } : Jvm.MethodName) prog_11_method_34_code (2 : Nat) (Option.some Jvm.ClassFile.FieldType.int)) ∈ UW := uw_at 928 rfl rfl
theorem uw_929 : (Jvm.Cond.methodLink "StabilitySumsModel" (197 : Nat) ({ cls := "StabilitySumsModel", name := "brokenBehind", desc := "(I)I" } : Jvm.MethodName)) ∈ UW := uw_at 929 (by decide +kernel) rfl
theorem uw_931 : (Jvm.Cond.instanceMethod ({ cls := "StabilitySumsModel", name := "brokenBehind", desc := "(I)I" } : Jvm.MethodName)) ∈ UW := uw_at 931 (by decide +kernel) rfl
set_option maxRecDepth 100000 in
theorem uw_932 : (Jvm.Cond.code ({ cls := "StabilitySumsModel", name := "brokenBehind", desc := "(I)I" } : Jvm.MethodName) prog_11_method_33_code (3 : Nat) (Option.some Jvm.ClassFile.FieldType.int)) ∈ UW := uw_at 932 rfl rfl
theorem uw_933 : (Jvm.Cond.methodLink "StabilitySumsLaw" (131 : Nat) ({ cls := "StabilitySumsModel", name := "broken", desc := "()I" } : Jvm.MethodName)) ∈ UW := uw_at 933 (by decide +kernel) rfl
theorem uw_934 : (Jvm.Cond.instanceMethod ({ cls := "StabilitySumsModel", name := "broken", desc := "()I" } : Jvm.MethodName)) ∈ UW := uw_at 934 (by decide +kernel) rfl
theorem uw_935 : (Jvm.Cond.selects "StabilitySumsModel" ({ cls := "StabilitySumsModel", name := "broken", desc := "()I" } : Jvm.MethodName) ({ cls := "StabilitySumsModel", name := "broken", desc := "()I" } : Jvm.MethodName)) ∈ UW := uw_at 935 (by decide +kernel) rfl
set_option maxRecDepth 100000 in
theorem uw_936 : (Jvm.Cond.code ({ cls := "StabilitySumsModel", name := "broken", desc := "()I" } : Jvm.MethodName) prog_11_method_35_code (2 : Nat) (Option.some Jvm.ClassFile.FieldType.int)) ∈ UW := uw_at 936 rfl rfl
theorem uw_937 : (Jvm.Cond.methodLink "StabilitySumsLaw" (135 : Nat) ({ cls := "StabilitySumsModel", name := "count", desc := "(I)I" } : Jvm.MethodName)) ∈ UW := uw_at 937 (by decide +kernel) rfl
theorem uw_938 : (Jvm.Cond.instanceMethod ({ cls := "StabilitySumsModel", name := "count", desc := "(I)I" } : Jvm.MethodName)) ∈ UW := uw_at 938 (by decide +kernel) rfl
theorem uw_939 : (Jvm.Cond.selects "StabilitySumsModel" ({ cls := "StabilitySumsModel", name := "count", desc := "(I)I" } : Jvm.MethodName) ({ cls := "StabilitySumsModel", name := "count", desc := "(I)I" } : Jvm.MethodName)) ∈ UW := uw_at 939 (by decide +kernel) rfl
set_option maxRecDepth 100000 in
theorem uw_940 : (Jvm.Cond.code ({ cls := "StabilitySumsModel", name := "count", desc := "(I)I" } : Jvm.MethodName) prog_11_method_36_code (4 : Nat) (Option.some Jvm.ClassFile.FieldType.int)) ∈ UW := uw_at 940 rfl rfl
theorem uw_941 : (Jvm.Cond.constantLong "StabilitySumsLaw" (64 : Nat) (4294967295 : Int64)) ∈ UW := uw_at 941 (by decide +kernel) rfl
end
section
abbrev cd_S_init : ByteArray := prog_1_method_1_code
abbrev yn_S_init : MethodName := ⟨"StabilitySums", "<init>", "()V"⟩
theorem de_S_init_0 : decode cd_S_init 0 = .ok (.aload_n 0, 1) := by decide +kernel
theorem de_S_init_1 : decode cd_S_init 1 = .ok (.invokespecial 1, 3) := by decide +kernel
theorem de_S_init_4 : decode cd_S_init 4 = .ok (.aload_n 0, 1) := by decide +kernel
theorem de_S_init_5 : decode cd_S_init 5 = .ok (.new 7, 3) := by decide +kernel
theorem de_S_init_8 : decode cd_S_init 8 = .ok (.dup, 1) := by decide +kernel
theorem de_S_init_9 : decode cd_S_init 9 = .ok (.invokespecial 9, 3) := by decide +kernel
theorem de_S_init_12 : decode cd_S_init 12 = .ok (.putfield 10, 3) := by decide +kernel
theorem de_S_init_15 : decode cd_S_init 15 = .ok (.aload_n 0, 1) := by decide +kernel
theorem de_S_init_16 : decode cd_S_init 16 = .ok (.new 16, 3) := by decide +kernel
theorem de_S_init_19 : decode cd_S_init 19 = .ok (.dup, 1) := by decide +kernel
theorem de_S_init_20 : decode cd_S_init 20 = .ok (.invokespecial 18, 3) := by decide +kernel
theorem de_S_init_23 : decode cd_S_init 23 = .ok (.putfield 19, 3) := by decide +kernel
theorem de_S_init_26 : decode cd_S_init 26 = .ok (.aload_n 0, 1) := by decide +kernel
theorem de_S_init_27 : decode cd_S_init 27 = .ok (.new 23, 3) := by decide +kernel
theorem de_S_init_30 : decode cd_S_init 30 = .ok (.dup, 1) := by decide +kernel
theorem de_S_init_31 : decode cd_S_init 31 = .ok (.invokespecial 25, 3) := by decide +kernel
theorem de_S_init_34 : decode cd_S_init 34 = .ok (.putfield 26, 3) := by decide +kernel
theorem de_S_init_37 : decode cd_S_init 37 = .ok (.aload_n 0, 1) := by decide +kernel
theorem de_S_init_38 : decode cd_S_init 38 = .ok (.new 30, 3) := by decide +kernel
theorem de_S_init_41 : decode cd_S_init 41 = .ok (.dup, 1) := by decide +kernel
theorem de_S_init_42 : decode cd_S_init 42 = .ok (.invokespecial 32, 3) := by decide +kernel
theorem de_S_init_45 : decode cd_S_init 45 = .ok (.putfield 33, 3) := by decide +kernel
theorem de_S_init_48 : decode cd_S_init 48 = .ok (.aload_n 0, 1) := by decide +kernel
theorem de_S_init_49 : decode cd_S_init 49 = .ok (.new 37, 3) := by decide +kernel
theorem de_S_init_52 : decode cd_S_init 52 = .ok (.dup, 1) := by decide +kernel
theorem de_S_init_53 : decode cd_S_init 53 = .ok (.invokespecial 39, 3) := by decide +kernel
theorem de_S_init_56 : decode cd_S_init 56 = .ok (.putfield 40, 3) := by decide +kernel
theorem de_S_init_59 : decode cd_S_init 59 = .ok (.aload_n 0, 1) := by decide +kernel
theorem de_S_init_60 : decode cd_S_init 60 = .ok (.new 44, 3) := by decide +kernel
theorem de_S_init_63 : decode cd_S_init 63 = .ok (.dup, 1) := by decide +kernel
theorem de_S_init_64 : decode cd_S_init 64 = .ok (.invokespecial 46, 3) := by decide +kernel
theorem de_S_init_67 : decode cd_S_init 67 = .ok (.putfield 47, 3) := by decide +kernel
theorem de_S_init_70 : decode cd_S_init 70 = .ok (.aload_n 0, 1) := by decide +kernel
theorem de_S_init_71 : decode cd_S_init 71 = .ok (.new 51, 3) := by decide +kernel
theorem de_S_init_74 : decode cd_S_init 74 = .ok (.dup, 1) := by decide +kernel
theorem de_S_init_75 : decode cd_S_init 75 = .ok (.invokespecial 53, 3) := by decide +kernel
theorem de_S_init_78 : decode cd_S_init 78 = .ok (.putfield 54, 3) := by decide +kernel
theorem de_S_init_81 : decode cd_S_init 81 = .ok (.aload_n 0, 1) := by decide +kernel
theorem de_S_init_82 : decode cd_S_init 82 = .ok (.new 58, 3) := by decide +kernel
theorem de_S_init_85 : decode cd_S_init 85 = .ok (.dup, 1) := by decide +kernel
theorem de_S_init_86 : decode cd_S_init 86 = .ok (.invokespecial 60, 3) := by decide +kernel
theorem de_S_init_89 : decode cd_S_init 89 = .ok (.putfield 61, 3) := by decide +kernel
theorem de_S_init_92 : decode cd_S_init 92 = .ok (.aload_n 0, 1) := by decide +kernel
theorem de_S_init_93 : decode cd_S_init 93 = .ok (.lconst 0, 1) := by decide +kernel
theorem de_S_init_94 : decode cd_S_init 94 = .ok (.putfield 65, 3) := by decide +kernel
theorem de_S_init_97 : decode cd_S_init 97 = .ok (.aload_n 0, 1) := by decide +kernel
theorem de_S_init_98 : decode cd_S_init 98 = .ok (.ldc2_w 69, 3) := by decide +kernel
theorem de_S_init_101 : decode cd_S_init 101 = .ok (.putfield 71, 3) := by decide +kernel
theorem de_S_init_104 : decode cd_S_init 104 = .ok (.return_, 1) := by decide +kernel
abbrev cd_W_init : ByteArray := prog_9_method_1_code
abbrev yn_W_init : MethodName := ⟨"StabilitySums$Weights", "<init>", "()V"⟩
theorem de_W_init_0 : decode cd_W_init 0 = .ok (.aload_n 0, 1) := by decide +kernel
theorem de_W_init_1 : decode cd_W_init 1 = .ok (.invokespecial 3, 3) := by decide +kernel
theorem de_W_init_4 : decode cd_W_init 4 = .ok (.aload_n 0, 1) := by decide +kernel
theorem de_W_init_5 : decode cd_W_init 5 = .ok (.bipush 40, 2) := by decide +kernel
theorem de_W_init_7 : decode cd_W_init 7 = .ok (.newarray .long, 2) := by decide +kernel
theorem de_W_init_9 : decode cd_W_init 9 = .ok (.putfield 9, 3) := by decide +kernel
theorem de_W_init_12 : decode cd_W_init 12 = .ok (.aload_n 0, 1) := by decide +kernel
theorem de_W_init_13 : decode cd_W_init 13 = .ok (.bipush 40, 2) := by decide +kernel
theorem de_W_init_15 : decode cd_W_init 15 = .ok (.newarray .long, 2) := by decide +kernel
theorem de_W_init_17 : decode cd_W_init 17 = .ok (.putfield 15, 3) := by decide +kernel
theorem de_W_init_20 : decode cd_W_init 20 = .ok (.aload_n 0, 1) := by decide +kernel
theorem de_W_init_21 : decode cd_W_init 21 = .ok (.bipush 40, 2) := by decide +kernel
theorem de_W_init_23 : decode cd_W_init 23 = .ok (.newarray .long, 2) := by decide +kernel
theorem de_W_init_25 : decode cd_W_init 25 = .ok (.putfield 18, 3) := by decide +kernel
theorem de_W_init_28 : decode cd_W_init 28 = .ok (.aload_n 0, 1) := by decide +kernel
theorem de_W_init_29 : decode cd_W_init 29 = .ok (.bipush 40, 2) := by decide +kernel
theorem de_W_init_31 : decode cd_W_init 31 = .ok (.newarray .long, 2) := by decide +kernel
theorem de_W_init_33 : decode cd_W_init 33 = .ok (.putfield 21, 3) := by decide +kernel
theorem de_W_init_36 : decode cd_W_init 36 = .ok (.aload_n 0, 1) := by decide +kernel
theorem de_W_init_37 : decode cd_W_init 37 = .ok (.iconst 0, 1) := by decide +kernel
theorem de_W_init_38 : decode cd_W_init 38 = .ok (.putfield 24, 3) := by decide +kernel
theorem de_W_init_41 : decode cd_W_init 41 = .ok (.return_, 1) := by decide +kernel
abbrev cd_T_init : ByteArray := prog_8_method_1_code
abbrev yn_T_init : MethodName := ⟨"StabilitySums$Tanks", "<init>", "()V"⟩
theorem de_T_init_0 : decode cd_T_init 0 = .ok (.aload_n 0, 1) := by decide +kernel
theorem de_T_init_1 : decode cd_T_init 1 = .ok (.invokespecial 3, 3) := by decide +kernel
theorem de_T_init_4 : decode cd_T_init 4 = .ok (.aload_n 0, 1) := by decide +kernel
theorem de_T_init_5 : decode cd_T_init 5 = .ok (.iconst 4, 1) := by decide +kernel
theorem de_T_init_6 : decode cd_T_init 6 = .ok (.newarray .long, 2) := by decide +kernel
theorem de_T_init_8 : decode cd_T_init 8 = .ok (.putfield 9, 3) := by decide +kernel
theorem de_T_init_11 : decode cd_T_init 11 = .ok (.aload_n 0, 1) := by decide +kernel
theorem de_T_init_12 : decode cd_T_init 12 = .ok (.iconst 4, 1) := by decide +kernel
theorem de_T_init_13 : decode cd_T_init 13 = .ok (.newarray .long, 2) := by decide +kernel
theorem de_T_init_15 : decode cd_T_init 15 = .ok (.putfield 15, 3) := by decide +kernel
theorem de_T_init_18 : decode cd_T_init 18 = .ok (.aload_n 0, 1) := by decide +kernel
theorem de_T_init_19 : decode cd_T_init 19 = .ok (.iconst 4, 1) := by decide +kernel
theorem de_T_init_20 : decode cd_T_init 20 = .ok (.newarray .long, 2) := by decide +kernel
theorem de_T_init_22 : decode cd_T_init 22 = .ok (.putfield 18, 3) := by decide +kernel
theorem de_T_init_25 : decode cd_T_init 25 = .ok (.aload_n 0, 1) := by decide +kernel
theorem de_T_init_26 : decode cd_T_init 26 = .ok (.iconst 4, 1) := by decide +kernel
theorem de_T_init_27 : decode cd_T_init 27 = .ok (.newarray .long, 2) := by decide +kernel
theorem de_T_init_29 : decode cd_T_init 29 = .ok (.putfield 21, 3) := by decide +kernel
theorem de_T_init_32 : decode cd_T_init 32 = .ok (.aload_n 0, 1) := by decide +kernel
theorem de_T_init_33 : decode cd_T_init 33 = .ok (.iconst 4, 1) := by decide +kernel
theorem de_T_init_34 : decode cd_T_init 34 = .ok (.newarray .long, 2) := by decide +kernel
theorem de_T_init_36 : decode cd_T_init 36 = .ok (.putfield 24, 3) := by decide +kernel
theorem de_T_init_39 : decode cd_T_init 39 = .ok (.aload_n 0, 1) := by decide +kernel
theorem de_T_init_40 : decode cd_T_init 40 = .ok (.iconst 4, 1) := by decide +kernel
theorem de_T_init_41 : decode cd_T_init 41 = .ok (.newarray .long, 2) := by decide +kernel
theorem de_T_init_43 : decode cd_T_init 43 = .ok (.putfield 27, 3) := by decide +kernel
theorem de_T_init_46 : decode cd_T_init 46 = .ok (.aload_n 0, 1) := by decide +kernel
theorem de_T_init_47 : decode cd_T_init 47 = .ok (.iconst 4, 1) := by decide +kernel
theorem de_T_init_48 : decode cd_T_init 48 = .ok (.newarray .long, 2) := by decide +kernel
theorem de_T_init_50 : decode cd_T_init 50 = .ok (.putfield 30, 3) := by decide +kernel
theorem de_T_init_53 : decode cd_T_init 53 = .ok (.aload_n 0, 1) := by decide +kernel
theorem de_T_init_54 : decode cd_T_init 54 = .ok (.iconst 4, 1) := by decide +kernel
theorem de_T_init_55 : decode cd_T_init 55 = .ok (.newarray .long, 2) := by decide +kernel
theorem de_T_init_57 : decode cd_T_init 57 = .ok (.putfield 33, 3) := by decide +kernel
theorem de_T_init_60 : decode cd_T_init 60 = .ok (.aload_n 0, 1) := by decide +kernel
theorem de_T_init_61 : decode cd_T_init 61 = .ok (.iconst 0, 1) := by decide +kernel
theorem de_T_init_62 : decode cd_T_init 62 = .ok (.putfield 36, 3) := by decide +kernel
theorem de_T_init_65 : decode cd_T_init 65 = .ok (.return_, 1) := by decide +kernel
abbrev cd_B_init : ByteArray := prog_7_method_1_code
abbrev yn_B_init : MethodName := ⟨"StabilitySums$Table", "<init>", "()V"⟩
theorem de_B_init_0 : decode cd_B_init 0 = .ok (.aload_n 0, 1) := by decide +kernel
theorem de_B_init_1 : decode cd_B_init 1 = .ok (.invokespecial 3, 3) := by decide +kernel
theorem de_B_init_4 : decode cd_B_init 4 = .ok (.aload_n 0, 1) := by decide +kernel
theorem de_B_init_5 : decode cd_B_init 5 = .ok (.bipush 12, 2) := by decide +kernel
theorem de_B_init_7 : decode cd_B_init 7 = .ok (.newarray .long, 2) := by decide +kernel
theorem de_B_init_9 : decode cd_B_init 9 = .ok (.putfield 9, 3) := by decide +kernel
theorem de_B_init_12 : decode cd_B_init 12 = .ok (.aload_n 0, 1) := by decide +kernel
theorem de_B_init_13 : decode cd_B_init 13 = .ok (.bipush 12, 2) := by decide +kernel
theorem de_B_init_15 : decode cd_B_init 15 = .ok (.newarray .long, 2) := by decide +kernel
theorem de_B_init_17 : decode cd_B_init 17 = .ok (.putfield 15, 3) := by decide +kernel
theorem de_B_init_20 : decode cd_B_init 20 = .ok (.aload_n 0, 1) := by decide +kernel
theorem de_B_init_21 : decode cd_B_init 21 = .ok (.bipush 12, 2) := by decide +kernel
theorem de_B_init_23 : decode cd_B_init 23 = .ok (.newarray .long, 2) := by decide +kernel
theorem de_B_init_25 : decode cd_B_init 25 = .ok (.putfield 18, 3) := by decide +kernel
theorem de_B_init_28 : decode cd_B_init 28 = .ok (.aload_n 0, 1) := by decide +kernel
theorem de_B_init_29 : decode cd_B_init 29 = .ok (.iconst 0, 1) := by decide +kernel
theorem de_B_init_30 : decode cd_B_init 30 = .ok (.putfield 21, 3) := by decide +kernel
theorem de_B_init_33 : decode cd_B_init 33 = .ok (.return_, 1) := by decide +kernel
abbrev cd_L_init : ByteArray := prog_4_method_1_code
abbrev yn_L_init : MethodName := ⟨"StabilitySums$Limits", "<init>", "()V"⟩
theorem de_L_init_0 : decode cd_L_init 0 = .ok (.aload_n 0, 1) := by decide +kernel
theorem de_L_init_1 : decode cd_L_init 1 = .ok (.invokespecial 3, 3) := by decide +kernel
theorem de_L_init_4 : decode cd_L_init 4 = .ok (.aload_n 0, 1) := by decide +kernel
theorem de_L_init_5 : decode cd_L_init 5 = .ok (.bipush 11, 2) := by decide +kernel
theorem de_L_init_7 : decode cd_L_init 7 = .ok (.newarray .int, 2) := by decide +kernel
theorem de_L_init_9 : decode cd_L_init 9 = .ok (.putfield 9, 3) := by decide +kernel
theorem de_L_init_12 : decode cd_L_init 12 = .ok (.aload_n 0, 1) := by decide +kernel
theorem de_L_init_13 : decode cd_L_init 13 = .ok (.bipush 11, 2) := by decide +kernel
theorem de_L_init_15 : decode cd_L_init 15 = .ok (.newarray .long, 2) := by decide +kernel
theorem de_L_init_17 : decode cd_L_init 17 = .ok (.putfield 15, 3) := by decide +kernel
theorem de_L_init_20 : decode cd_L_init 20 = .ok (.aload_n 0, 1) := by decide +kernel
theorem de_L_init_21 : decode cd_L_init 21 = .ok (.bipush 11, 2) := by decide +kernel
theorem de_L_init_23 : decode cd_L_init 23 = .ok (.newarray .long, 2) := by decide +kernel
theorem de_L_init_25 : decode cd_L_init 25 = .ok (.putfield 19, 3) := by decide +kernel
theorem de_L_init_28 : decode cd_L_init 28 = .ok (.aload_n 0, 1) := by decide +kernel
theorem de_L_init_29 : decode cd_L_init 29 = .ok (.iconst 0, 1) := by decide +kernel
theorem de_L_init_30 : decode cd_L_init 30 = .ok (.putfield 22, 3) := by decide +kernel
theorem de_L_init_33 : decode cd_L_init 33 = .ok (.return_, 1) := by decide +kernel
abbrev cd_E_init : ByteArray := prog_5_method_1_code
abbrev yn_E_init : MethodName := ⟨"StabilitySums$Steps", "<init>", "()V"⟩
theorem de_E_init_0 : decode cd_E_init 0 = .ok (.aload_n 0, 1) := by decide +kernel
theorem de_E_init_1 : decode cd_E_init 1 = .ok (.invokespecial 3, 3) := by decide +kernel
theorem de_E_init_4 : decode cd_E_init 4 = .ok (.aload_n 0, 1) := by decide +kernel
theorem de_E_init_5 : decode cd_E_init 5 = .ok (.bipush 20, 2) := by decide +kernel
theorem de_E_init_7 : decode cd_E_init 7 = .ok (.newarray .boolean, 2) := by decide +kernel
theorem de_E_init_9 : decode cd_E_init 9 = .ok (.putfield 9, 3) := by decide +kernel
theorem de_E_init_12 : decode cd_E_init 12 = .ok (.aload_n 0, 1) := by decide +kernel
theorem de_E_init_13 : decode cd_E_init 13 = .ok (.bipush 20, 2) := by decide +kernel
theorem de_E_init_15 : decode cd_E_init 15 = .ok (.newarray .int, 2) := by decide +kernel
theorem de_E_init_17 : decode cd_E_init 17 = .ok (.putfield 15, 3) := by decide +kernel
theorem de_E_init_20 : decode cd_E_init 20 = .ok (.aload_n 0, 1) := by decide +kernel
theorem de_E_init_21 : decode cd_E_init 21 = .ok (.bipush 20, 2) := by decide +kernel
theorem de_E_init_23 : decode cd_E_init 23 = .ok (.newarray .long, 2) := by decide +kernel
theorem de_E_init_25 : decode cd_E_init 25 = .ok (.putfield 19, 3) := by decide +kernel
theorem de_E_init_28 : decode cd_E_init 28 = .ok (.aload_n 0, 1) := by decide +kernel
theorem de_E_init_29 : decode cd_E_init 29 = .ok (.iconst 0, 1) := by decide +kernel
theorem de_E_init_30 : decode cd_E_init 30 = .ok (.putfield 23, 3) := by decide +kernel
theorem de_E_init_33 : decode cd_E_init 33 = .ok (.return_, 1) := by decide +kernel
abbrev cd_U_init : ByteArray := prog_6_method_1_code
abbrev yn_U_init : MethodName := ⟨"StabilitySums$Sums", "<init>", "()V"⟩
theorem de_U_init_0 : decode cd_U_init 0 = .ok (.aload_n 0, 1) := by decide +kernel
theorem de_U_init_1 : decode cd_U_init 1 = .ok (.invokespecial 1, 3) := by decide +kernel
theorem de_U_init_4 : decode cd_U_init 4 = .ok (.aload_n 0, 1) := by decide +kernel
theorem de_U_init_5 : decode cd_U_init 5 = .ok (.lconst 0, 1) := by decide +kernel
theorem de_U_init_6 : decode cd_U_init 6 = .ok (.putfield 7, 3) := by decide +kernel
theorem de_U_init_9 : decode cd_U_init 9 = .ok (.aload_n 0, 1) := by decide +kernel
theorem de_U_init_10 : decode cd_U_init 10 = .ok (.lconst 0, 1) := by decide +kernel
theorem de_U_init_11 : decode cd_U_init 11 = .ok (.putfield 13, 3) := by decide +kernel
theorem de_U_init_14 : decode cd_U_init 14 = .ok (.aload_n 0, 1) := by decide +kernel
theorem de_U_init_15 : decode cd_U_init 15 = .ok (.lconst 0, 1) := by decide +kernel
theorem de_U_init_16 : decode cd_U_init 16 = .ok (.putfield 16, 3) := by decide +kernel
theorem de_U_init_19 : decode cd_U_init 19 = .ok (.aload_n 0, 1) := by decide +kernel
theorem de_U_init_20 : decode cd_U_init 20 = .ok (.lconst 0, 1) := by decide +kernel
theorem de_U_init_21 : decode cd_U_init 21 = .ok (.putfield 19, 3) := by decide +kernel
theorem de_U_init_24 : decode cd_U_init 24 = .ok (.aload_n 0, 1) := by decide +kernel
theorem de_U_init_25 : decode cd_U_init 25 = .ok (.lconst 0, 1) := by decide +kernel
theorem de_U_init_26 : decode cd_U_init 26 = .ok (.putfield 22, 3) := by decide +kernel
theorem de_U_init_29 : decode cd_U_init 29 = .ok (.return_, 1) := by decide +kernel
abbrev cd_C_init : ByteArray := prog_2_method_1_code
abbrev yn_C_init : MethodName := ⟨"StabilitySums$Cuts", "<init>", "()V"⟩
theorem de_C_init_0 : decode cd_C_init 0 = .ok (.aload_n 0, 1) := by decide +kernel
theorem de_C_init_1 : decode cd_C_init 1 = .ok (.invokespecial 3, 3) := by decide +kernel
theorem de_C_init_4 : decode cd_C_init 4 = .ok (.aload_n 0, 1) := by decide +kernel
theorem de_C_init_5 : decode cd_C_init 5 = .ok (.bipush 11, 2) := by decide +kernel
theorem de_C_init_7 : decode cd_C_init 7 = .ok (.newarray .long, 2) := by decide +kernel
theorem de_C_init_9 : decode cd_C_init 9 = .ok (.putfield 9, 3) := by decide +kernel
theorem de_C_init_12 : decode cd_C_init 12 = .ok (.aload_n 0, 1) := by decide +kernel
theorem de_C_init_13 : decode cd_C_init 13 = .ok (.bipush 11, 2) := by decide +kernel
theorem de_C_init_15 : decode cd_C_init 15 = .ok (.newarray .long, 2) := by decide +kernel
theorem de_C_init_17 : decode cd_C_init 17 = .ok (.putfield 15, 3) := by decide +kernel
theorem de_C_init_20 : decode cd_C_init 20 = .ok (.aload_n 0, 1) := by decide +kernel
theorem de_C_init_21 : decode cd_C_init 21 = .ok (.bipush 11, 2) := by decide +kernel
theorem de_C_init_23 : decode cd_C_init 23 = .ok (.newarray .long, 2) := by decide +kernel
theorem de_C_init_25 : decode cd_C_init 25 = .ok (.putfield 18, 3) := by decide +kernel
theorem de_C_init_28 : decode cd_C_init 28 = .ok (.aload_n 0, 1) := by decide +kernel
theorem de_C_init_29 : decode cd_C_init 29 = .ok (.iconst 0, 1) := by decide +kernel
theorem de_C_init_30 : decode cd_C_init 30 = .ok (.putfield 21, 3) := by decide +kernel
theorem de_C_init_33 : decode cd_C_init 33 = .ok (.return_, 1) := by decide +kernel
abbrev cd_F_init : ByteArray := prog_3_method_1_code
abbrev yn_F_init : MethodName := ⟨"StabilitySums$Fraction", "<init>", "()V"⟩
theorem de_F_init_0 : decode cd_F_init 0 = .ok (.aload_n 0, 1) := by decide +kernel
theorem de_F_init_1 : decode cd_F_init 1 = .ok (.invokespecial 1, 3) := by decide +kernel
theorem de_F_init_4 : decode cd_F_init 4 = .ok (.aload_n 0, 1) := by decide +kernel
theorem de_F_init_5 : decode cd_F_init 5 = .ok (.lconst 0, 1) := by decide +kernel
theorem de_F_init_6 : decode cd_F_init 6 = .ok (.putfield 7, 3) := by decide +kernel
theorem de_F_init_9 : decode cd_F_init 9 = .ok (.aload_n 0, 1) := by decide +kernel
theorem de_F_init_10 : decode cd_F_init 10 = .ok (.lconst 1, 1) := by decide +kernel
theorem de_F_init_11 : decode cd_F_init 11 = .ok (.putfield 13, 3) := by decide +kernel
theorem de_F_init_14 : decode cd_F_init 14 = .ok (.return_, 1) := by decide +kernel
abbrev cd_S_hull : ByteArray := prog_1_method_6_code
abbrev yn_S_hull : MethodName := ⟨"StabilitySums", "hull", "(JJ)Z"⟩
theorem de_S_hull_0 : decode cd_S_hull 0 = .ok (.lload_n 1, 1) := by decide +kernel
theorem de_S_hull_1 : decode cd_S_hull 1 = .ok (.invokestatic 133, 3) := by decide +kernel
theorem de_S_hull_4 : decode cd_S_hull 4 = .ok (.ifCond .eq 16, 3) := by decide +kernel
theorem de_S_hull_7 : decode cd_S_hull 7 = .ok (.lload_n 3, 1) := by decide +kernel
theorem de_S_hull_8 : decode cd_S_hull 8 = .ok (.invokestatic 133, 3) := by decide +kernel
theorem de_S_hull_11 : decode cd_S_hull 11 = .ok (.ifCond .eq 9, 3) := by decide +kernel
theorem de_S_hull_14 : decode cd_S_hull 14 = .ok (.lload_n 1, 1) := by decide +kernel
theorem de_S_hull_15 : decode cd_S_hull 15 = .ok (.lload_n 3, 1) := by decide +kernel
theorem de_S_hull_16 : decode cd_S_hull 16 = .ok (.lcmp, 1) := by decide +kernel
theorem de_S_hull_17 : decode cd_S_hull 17 = .ok (.ifCond .lt 5, 3) := by decide +kernel
theorem de_S_hull_20 : decode cd_S_hull 20 = .ok (.iconst 0, 1) := by decide +kernel
theorem de_S_hull_21 : decode cd_S_hull 21 = .ok (.ireturn, 1) := by decide +kernel
theorem de_S_hull_22 : decode cd_S_hull 22 = .ok (.aload_n 0, 1) := by decide +kernel
theorem de_S_hull_23 : decode cd_S_hull 23 = .ok (.lload_n 1, 1) := by decide +kernel
theorem de_S_hull_24 : decode cd_S_hull 24 = .ok (.putfield 65, 3) := by decide +kernel
theorem de_S_hull_27 : decode cd_S_hull 27 = .ok (.aload_n 0, 1) := by decide +kernel
theorem de_S_hull_28 : decode cd_S_hull 28 = .ok (.lload_n 3, 1) := by decide +kernel
theorem de_S_hull_29 : decode cd_S_hull 29 = .ok (.putfield 71, 3) := by decide +kernel
theorem de_S_hull_32 : decode cd_S_hull 32 = .ok (.iconst 1, 1) := by decide +kernel
theorem de_S_hull_33 : decode cd_S_hull 33 = .ok (.ireturn, 1) := by decide +kernel
abbrev cd_S_isPlace : ByteArray := prog_1_method_19_code
abbrev yn_S_isPlace : MethodName := ⟨"StabilitySums", "isPlace", "(J)Z"⟩
theorem de_S_isPlace_0 : decode cd_S_isPlace 0 = .ok (.lload_n 0, 1) := by decide +kernel
theorem de_S_isPlace_1 : decode cd_S_isPlace 1 = .ok (.ldc2_w 239, 3) := by decide +kernel
theorem de_S_isPlace_4 : decode cd_S_isPlace 4 = .ok (.ldc2_w 69, 3) := by decide +kernel
theorem de_S_isPlace_7 : decode cd_S_isPlace 7 = .ok (.invokestatic 78, 3) := by decide +kernel
theorem de_S_isPlace_10 : decode cd_S_isPlace 10 = .ok (.ireturn, 1) := by decide +kernel
abbrev cd_S_isWithin : ByteArray := prog_1_method_18_code
abbrev yn_S_isWithin : MethodName := ⟨"StabilitySums", "isWithin", "(JJJ)Z"⟩
theorem de_S_isWithin_0 : decode cd_S_isWithin 0 = .ok (.lload_n 0, 1) := by decide +kernel
theorem de_S_isWithin_1 : decode cd_S_isWithin 1 = .ok (.lload_n 2, 1) := by decide +kernel
theorem de_S_isWithin_2 : decode cd_S_isWithin 2 = .ok (.lcmp, 1) := by decide +kernel
theorem de_S_isWithin_3 : decode cd_S_isWithin 3 = .ok (.ifCond .lt 14, 3) := by decide +kernel
theorem de_S_isWithin_6 : decode cd_S_isWithin 6 = .ok (.lload_n 0, 1) := by decide +kernel
theorem de_S_isWithin_7 : decode cd_S_isWithin 7 = .ok (.lload 4, 2) := by decide +kernel
theorem de_S_isWithin_9 : decode cd_S_isWithin 9 = .ok (.lcmp, 1) := by decide +kernel
theorem de_S_isWithin_10 : decode cd_S_isWithin 10 = .ok (.ifCond .gt 7, 3) := by decide +kernel
theorem de_S_isWithin_13 : decode cd_S_isWithin 13 = .ok (.iconst 1, 1) := by decide +kernel
theorem de_S_isWithin_14 : decode cd_S_isWithin 14 = .ok (.goto 4, 3) := by decide +kernel
theorem de_S_isWithin_17 : decode cd_S_isWithin 17 = .ok (.iconst 0, 1) := by decide +kernel
theorem de_S_isWithin_18 : decode cd_S_isWithin 18 = .ok (.ireturn, 1) := by decide +kernel
abbrev cd_S_check : ByteArray := prog_1_method_11_code
abbrev yn_S_check : MethodName := ⟨"StabilitySums", "check", "()I"⟩
theorem de_S_check_0 : decode cd_S_check 0 = .ok (.aload_n 0, 1) := by decide +kernel
theorem de_S_check_1 : decode cd_S_check 1 = .ok (.invokevirtual 155, 3) := by decide +kernel
theorem de_S_check_4 : decode cd_S_check 4 = .ok (.aload_n 0, 1) := by decide +kernel
theorem de_S_check_5 : decode cd_S_check 5 = .ok (.invokevirtual 209, 3) := by decide +kernel
theorem de_S_check_8 : decode cd_S_check 8 = .ok (.ireturn, 1) := by decide +kernel
abbrev cd_S_gather : ByteArray := prog_1_method_22_code
abbrev yn_S_gather : MethodName := ⟨"StabilitySums", "gather", "()V"⟩
theorem de_S_gather_0 : decode cd_S_gather 0 = .ok (.aload_n 0, 1) := by decide +kernel
theorem de_S_gather_1 : decode cd_S_gather 1 = .ok (.getfield 47, 3) := by decide +kernel
theorem de_S_gather_4 : decode cd_S_gather 4 = .ok (.invokevirtual 247, 3) := by decide +kernel
theorem de_S_gather_7 : decode cd_S_gather 7 = .ok (.aload_n 0, 1) := by decide +kernel
theorem de_S_gather_8 : decode cd_S_gather 8 = .ok (.getfield 54, 3) := by decide +kernel
theorem de_S_gather_11 : decode cd_S_gather 11 = .ok (.aload_n 0, 1) := by decide +kernel
theorem de_S_gather_12 : decode cd_S_gather 12 = .ok (.getfield 33, 3) := by decide +kernel
theorem de_S_gather_15 : decode cd_S_gather 15 = .ok (.getfield 203, 3) := by decide +kernel
theorem de_S_gather_18 : decode cd_S_gather 18 = .ok (.invokevirtual 250, 3) := by decide +kernel
theorem de_S_gather_21 : decode cd_S_gather 21 = .ok (.iconst 0, 1) := by decide +kernel
theorem de_S_gather_22 : decode cd_S_gather 22 = .ok (.istore_n 1, 1) := by decide +kernel
theorem de_S_gather_23 : decode cd_S_gather 23 = .ok (.iload_n 1, 1) := by decide +kernel
theorem de_S_gather_24 : decode cd_S_gather 24 = .ok (.aload_n 0, 1) := by decide +kernel
theorem de_S_gather_25 : decode cd_S_gather 25 = .ok (.getfield 10, 3) := by decide +kernel
theorem de_S_gather_28 : decode cd_S_gather 28 = .ok (.getfield 92, 3) := by decide +kernel
theorem de_S_gather_31 : decode cd_S_gather 31 = .ok (.if_icmp .ge 23, 3) := by decide +kernel
theorem de_S_gather_34 : decode cd_S_gather 34 = .ok (.aload_n 0, 1) := by decide +kernel
theorem de_S_gather_35 : decode cd_S_gather 35 = .ok (.iload_n 1, 1) := by decide +kernel
theorem de_S_gather_36 : decode cd_S_gather 36 = .ok (.aload_n 0, 1) := by decide +kernel
theorem de_S_gather_37 : decode cd_S_gather 37 = .ok (.getfield 10, 3) := by decide +kernel
theorem de_S_gather_40 : decode cd_S_gather 40 = .ok (.getfield 252, 3) := by decide +kernel
theorem de_S_gather_43 : decode cd_S_gather 43 = .ok (.iload_n 1, 1) := by decide +kernel
theorem de_S_gather_44 : decode cd_S_gather 44 = .ok (.laload, 1) := by decide +kernel
theorem de_S_gather_45 : decode cd_S_gather 45 = .ok (.invokevirtual 255, 3) := by decide +kernel
theorem de_S_gather_48 : decode cd_S_gather 48 = .ok (.iinc 1 1, 3) := by decide +kernel
theorem de_S_gather_51 : decode cd_S_gather 51 = .ok (.goto (-28), 3) := by decide +kernel
theorem de_S_gather_54 : decode cd_S_gather 54 = .ok (.iconst 0, 1) := by decide +kernel
theorem de_S_gather_55 : decode cd_S_gather 55 = .ok (.istore_n 1, 1) := by decide +kernel
theorem de_S_gather_56 : decode cd_S_gather 56 = .ok (.iload_n 1, 1) := by decide +kernel
theorem de_S_gather_57 : decode cd_S_gather 57 = .ok (.aload_n 0, 1) := by decide +kernel
theorem de_S_gather_58 : decode cd_S_gather 58 = .ok (.getfield 19, 3) := by decide +kernel
theorem de_S_gather_61 : decode cd_S_gather 61 = .ok (.getfield 113, 3) := by decide +kernel
theorem de_S_gather_64 : decode cd_S_gather 64 = .ok (.if_icmp .ge 33, 3) := by decide +kernel
theorem de_S_gather_67 : decode cd_S_gather 67 = .ok (.aload_n 0, 1) := by decide +kernel
theorem de_S_gather_68 : decode cd_S_gather 68 = .ok (.getfield 19, 3) := by decide +kernel
theorem de_S_gather_71 : decode cd_S_gather 71 = .ok (.getfield 259, 3) := by decide +kernel
theorem de_S_gather_74 : decode cd_S_gather 74 = .ok (.iload_n 1, 1) := by decide +kernel
theorem de_S_gather_75 : decode cd_S_gather 75 = .ok (.lconst 0, 1) := by decide +kernel
theorem de_S_gather_76 : decode cd_S_gather 76 = .ok (.lastore, 1) := by decide +kernel
theorem de_S_gather_77 : decode cd_S_gather 77 = .ok (.aload_n 0, 1) := by decide +kernel
theorem de_S_gather_78 : decode cd_S_gather 78 = .ok (.iload_n 1, 1) := by decide +kernel
theorem de_S_gather_79 : decode cd_S_gather 79 = .ok (.aload_n 0, 1) := by decide +kernel
theorem de_S_gather_80 : decode cd_S_gather 80 = .ok (.getfield 19, 3) := by decide +kernel
theorem de_S_gather_83 : decode cd_S_gather 83 = .ok (.getfield 128, 3) := by decide +kernel
theorem de_S_gather_86 : decode cd_S_gather 86 = .ok (.iload_n 1, 1) := by decide +kernel
theorem de_S_gather_87 : decode cd_S_gather 87 = .ok (.laload, 1) := by decide +kernel
theorem de_S_gather_88 : decode cd_S_gather 88 = .ok (.invokevirtual 262, 3) := by decide +kernel
theorem de_S_gather_91 : decode cd_S_gather 91 = .ok (.iinc 1 1, 3) := by decide +kernel
theorem de_S_gather_94 : decode cd_S_gather 94 = .ok (.goto (-38), 3) := by decide +kernel
theorem de_S_gather_97 : decode cd_S_gather 97 = .ok (.return_, 1) := by decide +kernel
abbrev cd_U_clear : ByteArray := prog_6_method_2_code
abbrev yn_U_clear : MethodName := ⟨"StabilitySums$Sums", "clear", "()V"⟩
theorem de_U_clear_0 : decode cd_U_clear 0 = .ok (.aload_n 0, 1) := by decide +kernel
theorem de_U_clear_1 : decode cd_U_clear 1 = .ok (.lconst 0, 1) := by decide +kernel
theorem de_U_clear_2 : decode cd_U_clear 2 = .ok (.putfield 7, 3) := by decide +kernel
theorem de_U_clear_5 : decode cd_U_clear 5 = .ok (.aload_n 0, 1) := by decide +kernel
theorem de_U_clear_6 : decode cd_U_clear 6 = .ok (.lconst 0, 1) := by decide +kernel
theorem de_U_clear_7 : decode cd_U_clear 7 = .ok (.putfield 13, 3) := by decide +kernel
theorem de_U_clear_10 : decode cd_U_clear 10 = .ok (.aload_n 0, 1) := by decide +kernel
theorem de_U_clear_11 : decode cd_U_clear 11 = .ok (.lconst 0, 1) := by decide +kernel
theorem de_U_clear_12 : decode cd_U_clear 12 = .ok (.putfield 16, 3) := by decide +kernel
theorem de_U_clear_15 : decode cd_U_clear 15 = .ok (.aload_n 0, 1) := by decide +kernel
theorem de_U_clear_16 : decode cd_U_clear 16 = .ok (.lconst 0, 1) := by decide +kernel
theorem de_U_clear_17 : decode cd_U_clear 17 = .ok (.putfield 19, 3) := by decide +kernel
theorem de_U_clear_20 : decode cd_U_clear 20 = .ok (.aload_n 0, 1) := by decide +kernel
theorem de_U_clear_21 : decode cd_U_clear 21 = .ok (.lconst 0, 1) := by decide +kernel
theorem de_U_clear_22 : decode cd_U_clear 22 = .ok (.putfield 22, 3) := by decide +kernel
theorem de_U_clear_25 : decode cd_U_clear 25 = .ok (.return_, 1) := by decide +kernel
abbrev cd_C_clear : ByteArray := prog_2_method_2_code
abbrev yn_C_clear : MethodName := ⟨"StabilitySums$Cuts", "clear", "(I)V"⟩
theorem de_C_clear_0 : decode cd_C_clear 0 = .ok (.aload_n 0, 1) := by decide +kernel
theorem de_C_clear_1 : decode cd_C_clear 1 = .ok (.iload_n 1, 1) := by decide +kernel
theorem de_C_clear_2 : decode cd_C_clear 2 = .ok (.bipush 10, 2) := by decide +kernel
theorem de_C_clear_4 : decode cd_C_clear 4 = .ok (.invokestatic 25, 3) := by decide +kernel
theorem de_C_clear_7 : decode cd_C_clear 7 = .ok (.putfield 21, 3) := by decide +kernel
theorem de_C_clear_10 : decode cd_C_clear 10 = .ok (.iconst 0, 1) := by decide +kernel
theorem de_C_clear_11 : decode cd_C_clear 11 = .ok (.istore_n 2, 1) := by decide +kernel
theorem de_C_clear_12 : decode cd_C_clear 12 = .ok (.iload_n 2, 1) := by decide +kernel
theorem de_C_clear_13 : decode cd_C_clear 13 = .ok (.aload_n 0, 1) := by decide +kernel
theorem de_C_clear_14 : decode cd_C_clear 14 = .ok (.getfield 21, 3) := by decide +kernel
theorem de_C_clear_17 : decode cd_C_clear 17 = .ok (.if_icmp .gt 23, 3) := by decide +kernel
theorem de_C_clear_20 : decode cd_C_clear 20 = .ok (.aload_n 0, 1) := by decide +kernel
theorem de_C_clear_21 : decode cd_C_clear 21 = .ok (.getfield 15, 3) := by decide +kernel
theorem de_C_clear_24 : decode cd_C_clear 24 = .ok (.iload_n 2, 1) := by decide +kernel
theorem de_C_clear_25 : decode cd_C_clear 25 = .ok (.lconst 0, 1) := by decide +kernel
theorem de_C_clear_26 : decode cd_C_clear 26 = .ok (.lastore, 1) := by decide +kernel
theorem de_C_clear_27 : decode cd_C_clear 27 = .ok (.aload_n 0, 1) := by decide +kernel
theorem de_C_clear_28 : decode cd_C_clear 28 = .ok (.getfield 18, 3) := by decide +kernel
theorem de_C_clear_31 : decode cd_C_clear 31 = .ok (.iload_n 2, 1) := by decide +kernel
theorem de_C_clear_32 : decode cd_C_clear 32 = .ok (.lconst 0, 1) := by decide +kernel
theorem de_C_clear_33 : decode cd_C_clear 33 = .ok (.lastore, 1) := by decide +kernel
theorem de_C_clear_34 : decode cd_C_clear 34 = .ok (.iinc 2 1, 3) := by decide +kernel
theorem de_C_clear_37 : decode cd_C_clear 37 = .ok (.goto (-25), 3) := by decide +kernel
theorem de_C_clear_40 : decode cd_C_clear 40 = .ok (.return_, 1) := by decide +kernel
abbrev cd_J_min : ByteArray := prog_17_method_69_code
abbrev yn_J_min : MethodName := ⟨"java/lang/Math", "min", "(II)I"⟩
theorem de_J_min_0 : decode cd_J_min 0 = .ok (.iload_n 0, 1) := by decide +kernel
theorem de_J_min_1 : decode cd_J_min 1 = .ok (.iload_n 1, 1) := by decide +kernel
theorem de_J_min_2 : decode cd_J_min 2 = .ok (.if_icmp .gt 7, 3) := by decide +kernel
theorem de_J_min_5 : decode cd_J_min 5 = .ok (.iload_n 0, 1) := by decide +kernel
theorem de_J_min_6 : decode cd_J_min 6 = .ok (.goto 4, 3) := by decide +kernel
theorem de_J_min_9 : decode cd_J_min 9 = .ok (.iload_n 1, 1) := by decide +kernel
theorem de_J_min_10 : decode cd_J_min 10 = .ok (.ireturn, 1) := by decide +kernel
abbrev cd_S_tryMore : ByteArray := prog_1_method_23_code
abbrev yn_S_tryMore : MethodName := ⟨"StabilitySums", "tryMore", "(IJ)V"⟩
theorem de_S_tryMore_0 : decode cd_S_tryMore 0 = .ok (.aload_n 0, 1) := by decide +kernel
theorem de_S_tryMore_1 : decode cd_S_tryMore 1 = .ok (.getfield 47, 3) := by decide +kernel
theorem de_S_tryMore_4 : decode cd_S_tryMore 4 = .ok (.lload_n 2, 1) := by decide +kernel
theorem de_S_tryMore_5 : decode cd_S_tryMore 5 = .ok (.aload_n 0, 1) := by decide +kernel
theorem de_S_tryMore_6 : decode cd_S_tryMore 6 = .ok (.getfield 10, 3) := by decide +kernel
theorem de_S_tryMore_9 : decode cd_S_tryMore 9 = .ok (.getfield 265, 3) := by decide +kernel
theorem de_S_tryMore_12 : decode cd_S_tryMore 12 = .ok (.iload_n 1, 1) := by decide +kernel
theorem de_S_tryMore_13 : decode cd_S_tryMore 13 = .ok (.laload, 1) := by decide +kernel
theorem de_S_tryMore_14 : decode cd_S_tryMore 14 = .ok (.aload_n 0, 1) := by decide +kernel
theorem de_S_tryMore_15 : decode cd_S_tryMore 15 = .ok (.getfield 10, 3) := by decide +kernel
theorem de_S_tryMore_18 : decode cd_S_tryMore 18 = .ok (.getfield 268, 3) := by decide +kernel
theorem de_S_tryMore_21 : decode cd_S_tryMore 21 = .ok (.iload_n 1, 1) := by decide +kernel
theorem de_S_tryMore_22 : decode cd_S_tryMore 22 = .ok (.laload, 1) := by decide +kernel
theorem de_S_tryMore_23 : decode cd_S_tryMore 23 = .ok (.aload_n 0, 1) := by decide +kernel
theorem de_S_tryMore_24 : decode cd_S_tryMore 24 = .ok (.getfield 10, 3) := by decide +kernel
theorem de_S_tryMore_27 : decode cd_S_tryMore 27 = .ok (.getfield 271, 3) := by decide +kernel
theorem de_S_tryMore_30 : decode cd_S_tryMore 30 = .ok (.iload_n 1, 1) := by decide +kernel
theorem de_S_tryMore_31 : decode cd_S_tryMore 31 = .ok (.laload, 1) := by decide +kernel
theorem de_S_tryMore_32 : decode cd_S_tryMore 32 = .ok (.invokevirtual 274, 3) := by decide +kernel
theorem de_S_tryMore_35 : decode cd_S_tryMore 35 = .ok (.aload_n 0, 1) := by decide +kernel
theorem de_S_tryMore_36 : decode cd_S_tryMore 36 = .ok (.getfield 54, 3) := by decide +kernel
theorem de_S_tryMore_39 : decode cd_S_tryMore 39 = .ok (.lload_n 2, 1) := by decide +kernel
theorem de_S_tryMore_40 : decode cd_S_tryMore 40 = .ok (.aload_n 0, 1) := by decide +kernel
theorem de_S_tryMore_41 : decode cd_S_tryMore 41 = .ok (.getfield 10, 3) := by decide +kernel
theorem de_S_tryMore_44 : decode cd_S_tryMore 44 = .ok (.getfield 265, 3) := by decide +kernel
theorem de_S_tryMore_47 : decode cd_S_tryMore 47 = .ok (.iload_n 1, 1) := by decide +kernel
theorem de_S_tryMore_48 : decode cd_S_tryMore 48 = .ok (.laload, 1) := by decide +kernel
theorem de_S_tryMore_49 : decode cd_S_tryMore 49 = .ok (.invokevirtual 278, 3) := by decide +kernel
theorem de_S_tryMore_52 : decode cd_S_tryMore 52 = .ok (.return_, 1) := by decide +kernel
abbrev cd_U_add : ByteArray := prog_6_method_3_code
abbrev yn_U_add : MethodName := ⟨"StabilitySums$Sums", "add", "(JJJJ)V"⟩
theorem de_U_add_0 : decode cd_U_add 0 = .ok (.aload_n 0, 1) := by decide +kernel
theorem de_U_add_1 : decode cd_U_add 1 = .ok (.dup, 1) := by decide +kernel
theorem de_U_add_2 : decode cd_U_add 2 = .ok (.getfield 7, 3) := by decide +kernel
theorem de_U_add_5 : decode cd_U_add 5 = .ok (.lload_n 1, 1) := by decide +kernel
theorem de_U_add_6 : decode cd_U_add 6 = .ok (.ladd, 1) := by decide +kernel
theorem de_U_add_7 : decode cd_U_add 7 = .ok (.putfield 7, 3) := by decide +kernel
theorem de_U_add_10 : decode cd_U_add 10 = .ok (.aload_n 0, 1) := by decide +kernel
theorem de_U_add_11 : decode cd_U_add 11 = .ok (.dup, 1) := by decide +kernel
theorem de_U_add_12 : decode cd_U_add 12 = .ok (.getfield 13, 3) := by decide +kernel
theorem de_U_add_15 : decode cd_U_add 15 = .ok (.lload_n 1, 1) := by decide +kernel
theorem de_U_add_16 : decode cd_U_add 16 = .ok (.lload_n 3, 1) := by decide +kernel
theorem de_U_add_17 : decode cd_U_add 17 = .ok (.lmul, 1) := by decide +kernel
theorem de_U_add_18 : decode cd_U_add 18 = .ok (.ladd, 1) := by decide +kernel
theorem de_U_add_19 : decode cd_U_add 19 = .ok (.putfield 13, 3) := by decide +kernel
theorem de_U_add_22 : decode cd_U_add 22 = .ok (.aload_n 0, 1) := by decide +kernel
theorem de_U_add_23 : decode cd_U_add 23 = .ok (.dup, 1) := by decide +kernel
theorem de_U_add_24 : decode cd_U_add 24 = .ok (.getfield 16, 3) := by decide +kernel
theorem de_U_add_27 : decode cd_U_add 27 = .ok (.lload_n 1, 1) := by decide +kernel
theorem de_U_add_28 : decode cd_U_add 28 = .ok (.lload 5, 2) := by decide +kernel
theorem de_U_add_30 : decode cd_U_add 30 = .ok (.lmul, 1) := by decide +kernel
theorem de_U_add_31 : decode cd_U_add 31 = .ok (.ladd, 1) := by decide +kernel
theorem de_U_add_32 : decode cd_U_add 32 = .ok (.putfield 16, 3) := by decide +kernel
theorem de_U_add_35 : decode cd_U_add 35 = .ok (.aload_n 0, 1) := by decide +kernel
theorem de_U_add_36 : decode cd_U_add 36 = .ok (.dup, 1) := by decide +kernel
theorem de_U_add_37 : decode cd_U_add 37 = .ok (.getfield 19, 3) := by decide +kernel
theorem de_U_add_40 : decode cd_U_add 40 = .ok (.lload_n 1, 1) := by decide +kernel
theorem de_U_add_41 : decode cd_U_add 41 = .ok (.lload 7, 2) := by decide +kernel
theorem de_U_add_43 : decode cd_U_add 43 = .ok (.lmul, 1) := by decide +kernel
theorem de_U_add_44 : decode cd_U_add 44 = .ok (.ladd, 1) := by decide +kernel
theorem de_U_add_45 : decode cd_U_add 45 = .ok (.putfield 19, 3) := by decide +kernel
theorem de_U_add_48 : decode cd_U_add 48 = .ok (.return_, 1) := by decide +kernel
abbrev cd_C_add : ByteArray := prog_2_method_3_code
abbrev yn_C_add : MethodName := ⟨"StabilitySums$Cuts", "add", "(JJ)V"⟩
theorem de_C_add_0 : decode cd_C_add 0 = .ok (.iconst 0, 1) := by decide +kernel
theorem de_C_add_1 : decode cd_C_add 1 = .ok (.istore 5, 2) := by decide +kernel
theorem de_C_add_3 : decode cd_C_add 3 = .ok (.iload 5, 2) := by decide +kernel
theorem de_C_add_5 : decode cd_C_add 5 = .ok (.aload_n 0, 1) := by decide +kernel
theorem de_C_add_6 : decode cd_C_add 6 = .ok (.getfield 21, 3) := by decide +kernel
theorem de_C_add_9 : decode cd_C_add 9 = .ok (.if_icmp .gt 53, 3) := by decide +kernel
theorem de_C_add_12 : decode cd_C_add 12 = .ok (.lload_n 3, 1) := by decide +kernel
theorem de_C_add_13 : decode cd_C_add 13 = .ok (.aload_n 0, 1) := by decide +kernel
theorem de_C_add_14 : decode cd_C_add 14 = .ok (.getfield 9, 3) := by decide +kernel
theorem de_C_add_17 : decode cd_C_add 17 = .ok (.iload 5, 2) := by decide +kernel
theorem de_C_add_19 : decode cd_C_add 19 = .ok (.laload, 1) := by decide +kernel
theorem de_C_add_20 : decode cd_C_add 20 = .ok (.lcmp, 1) := by decide +kernel
theorem de_C_add_21 : decode cd_C_add 21 = .ok (.ifCond .ge 35, 3) := by decide +kernel
theorem de_C_add_24 : decode cd_C_add 24 = .ok (.aload_n 0, 1) := by decide +kernel
theorem de_C_add_25 : decode cd_C_add 25 = .ok (.getfield 15, 3) := by decide +kernel
theorem de_C_add_28 : decode cd_C_add 28 = .ok (.iload 5, 2) := by decide +kernel
theorem de_C_add_30 : decode cd_C_add 30 = .ok (.dup2, 1) := by decide +kernel
theorem de_C_add_31 : decode cd_C_add 31 = .ok (.laload, 1) := by decide +kernel
theorem de_C_add_32 : decode cd_C_add 32 = .ok (.lload_n 1, 1) := by decide +kernel
theorem de_C_add_33 : decode cd_C_add 33 = .ok (.ladd, 1) := by decide +kernel
theorem de_C_add_34 : decode cd_C_add 34 = .ok (.lastore, 1) := by decide +kernel
theorem de_C_add_35 : decode cd_C_add 35 = .ok (.aload_n 0, 1) := by decide +kernel
theorem de_C_add_36 : decode cd_C_add 36 = .ok (.getfield 18, 3) := by decide +kernel
theorem de_C_add_39 : decode cd_C_add 39 = .ok (.iload 5, 2) := by decide +kernel
theorem de_C_add_41 : decode cd_C_add 41 = .ok (.dup2, 1) := by decide +kernel
theorem de_C_add_42 : decode cd_C_add 42 = .ok (.laload, 1) := by decide +kernel
theorem de_C_add_43 : decode cd_C_add 43 = .ok (.lload_n 1, 1) := by decide +kernel
theorem de_C_add_44 : decode cd_C_add 44 = .ok (.aload_n 0, 1) := by decide +kernel
theorem de_C_add_45 : decode cd_C_add 45 = .ok (.getfield 9, 3) := by decide +kernel
theorem de_C_add_48 : decode cd_C_add 48 = .ok (.iload 5, 2) := by decide +kernel
theorem de_C_add_50 : decode cd_C_add 50 = .ok (.laload, 1) := by decide +kernel
theorem de_C_add_51 : decode cd_C_add 51 = .ok (.lload_n 3, 1) := by decide +kernel
theorem de_C_add_52 : decode cd_C_add 52 = .ok (.lsub, 1) := by decide +kernel
theorem de_C_add_53 : decode cd_C_add 53 = .ok (.lmul, 1) := by decide +kernel
theorem de_C_add_54 : decode cd_C_add 54 = .ok (.ladd, 1) := by decide +kernel
theorem de_C_add_55 : decode cd_C_add 55 = .ok (.lastore, 1) := by decide +kernel
theorem de_C_add_56 : decode cd_C_add 56 = .ok (.iinc 5 1, 3) := by decide +kernel
theorem de_C_add_59 : decode cd_C_add 59 = .ok (.goto (-56), 3) := by decide +kernel
theorem de_C_add_62 : decode cd_C_add 62 = .ok (.return_, 1) := by decide +kernel
abbrev cd_S_tryFilling : ByteArray := prog_1_method_24_code
abbrev yn_S_tryFilling : MethodName := ⟨"StabilitySums", "tryFilling", "(IJ)V"⟩
theorem de_S_tryFilling_0 : decode cd_S_tryFilling 0 = .ok (.lload_n 2, 1) := by decide +kernel
theorem de_S_tryFilling_1 : decode cd_S_tryFilling 1 = .ok (.aload_n 0, 1) := by decide +kernel
theorem de_S_tryFilling_2 : decode cd_S_tryFilling 2 = .ok (.getfield 19, 3) := by decide +kernel
theorem de_S_tryFilling_5 : decode cd_S_tryFilling 5 = .ok (.getfield 259, 3) := by decide +kernel
theorem de_S_tryFilling_8 : decode cd_S_tryFilling 8 = .ok (.iload_n 1, 1) := by decide +kernel
theorem de_S_tryFilling_9 : decode cd_S_tryFilling 9 = .ok (.laload, 1) := by decide +kernel
theorem de_S_tryFilling_10 : decode cd_S_tryFilling 10 = .ok (.lsub, 1) := by decide +kernel
theorem de_S_tryFilling_11 : decode cd_S_tryFilling 11 = .ok (.lstore 4, 2) := by decide +kernel
theorem de_S_tryFilling_13 : decode cd_S_tryFilling 13 = .ok (.lload 4, 2) := by decide +kernel
theorem de_S_tryFilling_15 : decode cd_S_tryFilling 15 = .ok (.lconst 0, 1) := by decide +kernel
theorem de_S_tryFilling_16 : decode cd_S_tryFilling 16 = .ok (.lcmp, 1) := by decide +kernel
theorem de_S_tryFilling_17 : decode cd_S_tryFilling 17 = .ok (.ifCond .ne 4, 3) := by decide +kernel
theorem de_S_tryFilling_20 : decode cd_S_tryFilling 20 = .ok (.return_, 1) := by decide +kernel
theorem de_S_tryFilling_21 : decode cd_S_tryFilling 21 = .ok (.aload_n 0, 1) := by decide +kernel
theorem de_S_tryFilling_22 : decode cd_S_tryFilling 22 = .ok (.getfield 47, 3) := by decide +kernel
theorem de_S_tryFilling_25 : decode cd_S_tryFilling 25 = .ok (.dup, 1) := by decide +kernel
theorem de_S_tryFilling_26 : decode cd_S_tryFilling 26 = .ok (.getfield 281, 3) := by decide +kernel
theorem de_S_tryFilling_29 : decode cd_S_tryFilling 29 = .ok (.aload_n 0, 1) := by decide +kernel
theorem de_S_tryFilling_30 : decode cd_S_tryFilling 30 = .ok (.getfield 19, 3) := by decide +kernel
theorem de_S_tryFilling_33 : decode cd_S_tryFilling 33 = .ok (.iload_n 1, 1) := by decide +kernel
theorem de_S_tryFilling_34 : decode cd_S_tryFilling 34 = .ok (.aload_n 0, 1) := by decide +kernel
theorem de_S_tryFilling_35 : decode cd_S_tryFilling 35 = .ok (.getfield 19, 3) := by decide +kernel
theorem de_S_tryFilling_38 : decode cd_S_tryFilling 38 = .ok (.getfield 259, 3) := by decide +kernel
theorem de_S_tryFilling_41 : decode cd_S_tryFilling 41 = .ok (.iload_n 1, 1) := by decide +kernel
theorem de_S_tryFilling_42 : decode cd_S_tryFilling 42 = .ok (.laload, 1) := by decide +kernel
theorem de_S_tryFilling_43 : decode cd_S_tryFilling 43 = .ok (.invokevirtual 284, 3) := by decide +kernel
theorem de_S_tryFilling_46 : decode cd_S_tryFilling 46 = .ok (.lsub, 1) := by decide +kernel
theorem de_S_tryFilling_47 : decode cd_S_tryFilling 47 = .ok (.putfield 281, 3) := by decide +kernel
theorem de_S_tryFilling_50 : decode cd_S_tryFilling 50 = .ok (.aload_n 0, 1) := by decide +kernel
theorem de_S_tryFilling_51 : decode cd_S_tryFilling 51 = .ok (.getfield 47, 3) := by decide +kernel
theorem de_S_tryFilling_54 : decode cd_S_tryFilling 54 = .ok (.dup, 1) := by decide +kernel
theorem de_S_tryFilling_55 : decode cd_S_tryFilling 55 = .ok (.getfield 281, 3) := by decide +kernel
theorem de_S_tryFilling_58 : decode cd_S_tryFilling 58 = .ok (.aload_n 0, 1) := by decide +kernel
theorem de_S_tryFilling_59 : decode cd_S_tryFilling 59 = .ok (.getfield 19, 3) := by decide +kernel
theorem de_S_tryFilling_62 : decode cd_S_tryFilling 62 = .ok (.iload_n 1, 1) := by decide +kernel
theorem de_S_tryFilling_63 : decode cd_S_tryFilling 63 = .ok (.lload_n 2, 1) := by decide +kernel
theorem de_S_tryFilling_64 : decode cd_S_tryFilling 64 = .ok (.invokevirtual 284, 3) := by decide +kernel
theorem de_S_tryFilling_67 : decode cd_S_tryFilling 67 = .ok (.ladd, 1) := by decide +kernel
theorem de_S_tryFilling_68 : decode cd_S_tryFilling 68 = .ok (.putfield 281, 3) := by decide +kernel
theorem de_S_tryFilling_71 : decode cd_S_tryFilling 71 = .ok (.aload_n 0, 1) := by decide +kernel
theorem de_S_tryFilling_72 : decode cd_S_tryFilling 72 = .ok (.getfield 47, 3) := by decide +kernel
theorem de_S_tryFilling_75 : decode cd_S_tryFilling 75 = .ok (.lload 4, 2) := by decide +kernel
theorem de_S_tryFilling_77 : decode cd_S_tryFilling 77 = .ok (.aload_n 0, 1) := by decide +kernel
theorem de_S_tryFilling_78 : decode cd_S_tryFilling 78 = .ok (.getfield 19, 3) := by decide +kernel
theorem de_S_tryFilling_81 : decode cd_S_tryFilling 81 = .ok (.getfield 288, 3) := by decide +kernel
theorem de_S_tryFilling_84 : decode cd_S_tryFilling 84 = .ok (.iload_n 1, 1) := by decide +kernel
theorem de_S_tryFilling_85 : decode cd_S_tryFilling 85 = .ok (.laload, 1) := by decide +kernel
theorem de_S_tryFilling_86 : decode cd_S_tryFilling 86 = .ok (.aload_n 0, 1) := by decide +kernel
theorem de_S_tryFilling_87 : decode cd_S_tryFilling 87 = .ok (.getfield 19, 3) := by decide +kernel
theorem de_S_tryFilling_90 : decode cd_S_tryFilling 90 = .ok (.getfield 289, 3) := by decide +kernel
theorem de_S_tryFilling_93 : decode cd_S_tryFilling 93 = .ok (.iload_n 1, 1) := by decide +kernel
theorem de_S_tryFilling_94 : decode cd_S_tryFilling 94 = .ok (.laload, 1) := by decide +kernel
theorem de_S_tryFilling_95 : decode cd_S_tryFilling 95 = .ok (.aload_n 0, 1) := by decide +kernel
theorem de_S_tryFilling_96 : decode cd_S_tryFilling 96 = .ok (.getfield 19, 3) := by decide +kernel
theorem de_S_tryFilling_99 : decode cd_S_tryFilling 99 = .ok (.getfield 290, 3) := by decide +kernel
theorem de_S_tryFilling_102 : decode cd_S_tryFilling 102 = .ok (.iload_n 1, 1) := by decide +kernel
theorem de_S_tryFilling_103 : decode cd_S_tryFilling 103 = .ok (.laload, 1) := by decide +kernel
theorem de_S_tryFilling_104 : decode cd_S_tryFilling 104 = .ok (.invokevirtual 274, 3) := by decide +kernel
theorem de_S_tryFilling_107 : decode cd_S_tryFilling 107 = .ok (.aload_n 0, 1) := by decide +kernel
theorem de_S_tryFilling_108 : decode cd_S_tryFilling 108 = .ok (.getfield 54, 3) := by decide +kernel
theorem de_S_tryFilling_111 : decode cd_S_tryFilling 111 = .ok (.lload 4, 2) := by decide +kernel
theorem de_S_tryFilling_113 : decode cd_S_tryFilling 113 = .ok (.aload_n 0, 1) := by decide +kernel
theorem de_S_tryFilling_114 : decode cd_S_tryFilling 114 = .ok (.getfield 19, 3) := by decide +kernel
theorem de_S_tryFilling_117 : decode cd_S_tryFilling 117 = .ok (.getfield 288, 3) := by decide +kernel
theorem de_S_tryFilling_120 : decode cd_S_tryFilling 120 = .ok (.iload_n 1, 1) := by decide +kernel
theorem de_S_tryFilling_121 : decode cd_S_tryFilling 121 = .ok (.laload, 1) := by decide +kernel
theorem de_S_tryFilling_122 : decode cd_S_tryFilling 122 = .ok (.invokevirtual 278, 3) := by decide +kernel
theorem de_S_tryFilling_125 : decode cd_S_tryFilling 125 = .ok (.aload_n 0, 1) := by decide +kernel
theorem de_S_tryFilling_126 : decode cd_S_tryFilling 126 = .ok (.getfield 19, 3) := by decide +kernel
theorem de_S_tryFilling_129 : decode cd_S_tryFilling 129 = .ok (.getfield 259, 3) := by decide +kernel
theorem de_S_tryFilling_132 : decode cd_S_tryFilling 132 = .ok (.iload_n 1, 1) := by decide +kernel
theorem de_S_tryFilling_133 : decode cd_S_tryFilling 133 = .ok (.lload_n 2, 1) := by decide +kernel
theorem de_S_tryFilling_134 : decode cd_S_tryFilling 134 = .ok (.lastore, 1) := by decide +kernel
theorem de_S_tryFilling_135 : decode cd_S_tryFilling 135 = .ok (.return_, 1) := by decide +kernel
abbrev cd_T_surfaceOf : ByteArray := prog_8_method_4_code
abbrev yn_T_surfaceOf : MethodName := ⟨"StabilitySums$Tanks", "surfaceOf", "(IJ)J"⟩
theorem de_T_surfaceOf_0 : decode cd_T_surfaceOf 0 = .ok (.aload_n 0, 1) := by decide +kernel
theorem de_T_surfaceOf_1 : decode cd_T_surfaceOf 1 = .ok (.iload_n 1, 1) := by decide +kernel
theorem de_T_surfaceOf_2 : decode cd_T_surfaceOf 2 = .ok (.lload_n 2, 1) := by decide +kernel
theorem de_T_surfaceOf_3 : decode cd_T_surfaceOf 3 = .ok (.invokevirtual 40, 3) := by decide +kernel
theorem de_T_surfaceOf_6 : decode cd_T_surfaceOf 6 = .ok (.ifCond .eq 12, 3) := by decide +kernel
theorem de_T_surfaceOf_9 : decode cd_T_surfaceOf 9 = .ok (.aload_n 0, 1) := by decide +kernel
theorem de_T_surfaceOf_10 : decode cd_T_surfaceOf 10 = .ok (.getfield 15, 3) := by decide +kernel
theorem de_T_surfaceOf_13 : decode cd_T_surfaceOf 13 = .ok (.iload_n 1, 1) := by decide +kernel
theorem de_T_surfaceOf_14 : decode cd_T_surfaceOf 14 = .ok (.laload, 1) := by decide +kernel
theorem de_T_surfaceOf_15 : decode cd_T_surfaceOf 15 = .ok (.goto 4, 3) := by decide +kernel
theorem de_T_surfaceOf_18 : decode cd_T_surfaceOf 18 = .ok (.lconst 0, 1) := by decide +kernel
theorem de_T_surfaceOf_19 : decode cd_T_surfaceOf 19 = .ok (.lreturn, 1) := by decide +kernel
abbrev cd_T_isSlack : ByteArray := prog_8_method_3_code
abbrev yn_T_isSlack : MethodName := ⟨"StabilitySums$Tanks", "isSlack", "(IJ)Z"⟩
theorem de_T_isSlack_0 : decode cd_T_isSlack 0 = .ok (.lload_n 2, 1) := by decide +kernel
theorem de_T_isSlack_1 : decode cd_T_isSlack 1 = .ok (.lconst 0, 1) := by decide +kernel
theorem de_T_isSlack_2 : decode cd_T_isSlack 2 = .ok (.lcmp, 1) := by decide +kernel
theorem de_T_isSlack_3 : decode cd_T_isSlack 3 = .ok (.ifCond .le 18, 3) := by decide +kernel
theorem de_T_isSlack_6 : decode cd_T_isSlack 6 = .ok (.lload_n 2, 1) := by decide +kernel
theorem de_T_isSlack_7 : decode cd_T_isSlack 7 = .ok (.aload_n 0, 1) := by decide +kernel
theorem de_T_isSlack_8 : decode cd_T_isSlack 8 = .ok (.getfield 9, 3) := by decide +kernel
theorem de_T_isSlack_11 : decode cd_T_isSlack 11 = .ok (.iload_n 1, 1) := by decide +kernel
theorem de_T_isSlack_12 : decode cd_T_isSlack 12 = .ok (.laload, 1) := by decide +kernel
theorem de_T_isSlack_13 : decode cd_T_isSlack 13 = .ok (.lcmp, 1) := by decide +kernel
theorem de_T_isSlack_14 : decode cd_T_isSlack 14 = .ok (.ifCond .ge 7, 3) := by decide +kernel
theorem de_T_isSlack_17 : decode cd_T_isSlack 17 = .ok (.iconst 1, 1) := by decide +kernel
theorem de_T_isSlack_18 : decode cd_T_isSlack 18 = .ok (.goto 4, 3) := by decide +kernel
theorem de_T_isSlack_21 : decode cd_T_isSlack 21 = .ok (.iconst 0, 1) := by decide +kernel
theorem de_T_isSlack_22 : decode cd_T_isSlack 22 = .ok (.ireturn, 1) := by decide +kernel
abbrev cd_S_leastBroken : ByteArray := prog_1_method_30_code
abbrev yn_S_leastBroken : MethodName := ⟨"StabilitySums", "leastBroken", "()I"⟩
theorem de_S_leastBroken_0 : decode cd_S_leastBroken 0 = .ok (.iconst 1, 1) := by decide +kernel
theorem de_S_leastBroken_1 : decode cd_S_leastBroken 1 = .ok (.istore_n 1, 1) := by decide +kernel
theorem de_S_leastBroken_2 : decode cd_S_leastBroken 2 = .ok (.iload_n 1, 1) := by decide +kernel
theorem de_S_leastBroken_3 : decode cd_S_leastBroken 3 = .ok (.aload_n 0, 1) := by decide +kernel
theorem de_S_leastBroken_4 : decode cd_S_leastBroken 4 = .ok (.getfield 33, 3) := by decide +kernel
theorem de_S_leastBroken_7 : decode cd_S_leastBroken 7 = .ok (.getfield 203, 3) := by decide +kernel
theorem de_S_leastBroken_10 : decode cd_S_leastBroken 10 = .ok (.if_icmp .gt 19, 3) := by decide +kernel
theorem de_S_leastBroken_13 : decode cd_S_leastBroken 13 = .ok (.aload_n 0, 1) := by decide +kernel
theorem de_S_leastBroken_14 : decode cd_S_leastBroken 14 = .ok (.iload_n 1, 1) := by decide +kernel
theorem de_S_leastBroken_15 : decode cd_S_leastBroken 15 = .ok (.invokevirtual 329, 3) := by decide +kernel
theorem de_S_leastBroken_18 : decode cd_S_leastBroken 18 = .ok (.ifCond .eq 5, 3) := by decide +kernel
theorem de_S_leastBroken_21 : decode cd_S_leastBroken 21 = .ok (.iload_n 1, 1) := by decide +kernel
theorem de_S_leastBroken_22 : decode cd_S_leastBroken 22 = .ok (.ireturn, 1) := by decide +kernel
theorem de_S_leastBroken_23 : decode cd_S_leastBroken 23 = .ok (.iinc 1 1, 3) := by decide +kernel
theorem de_S_leastBroken_26 : decode cd_S_leastBroken 26 = .ok (.goto (-24), 3) := by decide +kernel
theorem de_S_leastBroken_29 : decode cd_S_leastBroken 29 = .ok (.iconst 0, 1) := by decide +kernel
theorem de_S_leastBroken_30 : decode cd_S_leastBroken 30 = .ok (.ireturn, 1) := by decide +kernel
abbrev cd_S_breaks : ByteArray := prog_1_method_31_code
abbrev yn_S_breaks : MethodName := ⟨"StabilitySums", "breaks", "(I)Z"⟩
theorem de_S_breaks_0 : decode cd_S_breaks 0 = .ok (.aload_n 0, 1) := by decide +kernel
theorem de_S_breaks_1 : decode cd_S_breaks 1 = .ok (.getfield 33, 3) := by decide +kernel
theorem de_S_breaks_4 : decode cd_S_breaks 4 = .ok (.getfield 332, 3) := by decide +kernel
theorem de_S_breaks_7 : decode cd_S_breaks 7 = .ok (.iload_n 1, 1) := by decide +kernel
theorem de_S_breaks_8 : decode cd_S_breaks 8 = .ok (.iaload, 1) := by decide +kernel
theorem de_S_breaks_9 : decode cd_S_breaks 9 = .ok (.istore_n 2, 1) := by decide +kernel
theorem de_S_breaks_10 : decode cd_S_breaks 10 = .ok (.iload_n 2, 1) := by decide +kernel
theorem de_S_breaks_11 : decode cd_S_breaks 11 = .ok (.bipush 8, 2) := by decide +kernel
theorem de_S_breaks_13 : decode cd_S_breaks 13 = .ok (.if_icmp .eq 9, 3) := by decide +kernel
theorem de_S_breaks_16 : decode cd_S_breaks 16 = .ok (.iload_n 2, 1) := by decide +kernel
theorem de_S_breaks_17 : decode cd_S_breaks 17 = .ok (.bipush 9, 2) := by decide +kernel
theorem de_S_breaks_19 : decode cd_S_breaks 19 = .ok (.if_icmp .ne 42, 3) := by decide +kernel
theorem de_S_breaks_22 : decode cd_S_breaks 22 = .ok (.iload_n 2, 1) := by decide +kernel
theorem de_S_breaks_23 : decode cd_S_breaks 23 = .ok (.bipush 8, 2) := by decide +kernel
theorem de_S_breaks_25 : decode cd_S_breaks 25 = .ok (.if_icmp .ne 11, 3) := by decide +kernel
theorem de_S_breaks_28 : decode cd_S_breaks 28 = .ok (.aload_n 0, 1) := by decide +kernel
theorem de_S_breaks_29 : decode cd_S_breaks 29 = .ok (.iload_n 1, 1) := by decide +kernel
theorem de_S_breaks_30 : decode cd_S_breaks 30 = .ok (.invokevirtual 188, 3) := by decide +kernel
theorem de_S_breaks_33 : decode cd_S_breaks 33 = .ok (.goto 8, 3) := by decide +kernel
theorem de_S_breaks_36 : decode cd_S_breaks 36 = .ok (.aload_n 0, 1) := by decide +kernel
theorem de_S_breaks_37 : decode cd_S_breaks 37 = .ok (.iload_n 1, 1) := by decide +kernel
theorem de_S_breaks_38 : decode cd_S_breaks 38 = .ok (.invokevirtual 192, 3) := by decide +kernel
theorem de_S_breaks_41 : decode cd_S_breaks 41 = .ok (.lstore_n 3, 1) := by decide +kernel
theorem de_S_breaks_42 : decode cd_S_breaks 42 = .ok (.aload_n 0, 1) := by decide +kernel
theorem de_S_breaks_43 : decode cd_S_breaks 43 = .ok (.getfield 33, 3) := by decide +kernel
theorem de_S_breaks_46 : decode cd_S_breaks 46 = .ok (.iload_n 1, 1) := by decide +kernel
theorem de_S_breaks_47 : decode cd_S_breaks 47 = .ok (.lload_n 3, 1) := by decide +kernel
theorem de_S_breaks_48 : decode cd_S_breaks 48 = .ok (.lload_n 3, 1) := by decide +kernel
theorem de_S_breaks_49 : decode cd_S_breaks 49 = .ok (.invokevirtual 335, 3) := by decide +kernel
theorem de_S_breaks_52 : decode cd_S_breaks 52 = .ok (.ifCond .ne 7, 3) := by decide +kernel
theorem de_S_breaks_55 : decode cd_S_breaks 55 = .ok (.iconst 1, 1) := by decide +kernel
theorem de_S_breaks_56 : decode cd_S_breaks 56 = .ok (.goto 4, 3) := by decide +kernel
theorem de_S_breaks_59 : decode cd_S_breaks 59 = .ok (.iconst 0, 1) := by decide +kernel
theorem de_S_breaks_60 : decode cd_S_breaks 60 = .ok (.ireturn, 1) := by decide +kernel
theorem de_S_breaks_61 : decode cd_S_breaks 61 = .ok (.aload_n 0, 1) := by decide +kernel
theorem de_S_breaks_62 : decode cd_S_breaks 62 = .ok (.iload_n 2, 1) := by decide +kernel
theorem de_S_breaks_63 : decode cd_S_breaks 63 = .ok (.invokevirtual 158, 3) := by decide +kernel
theorem de_S_breaks_66 : decode cd_S_breaks 66 = .ok (.ifCond .eq 5, 3) := by decide +kernel
theorem de_S_breaks_69 : decode cd_S_breaks 69 = .ok (.iconst 1, 1) := by decide +kernel
theorem de_S_breaks_70 : decode cd_S_breaks 70 = .ok (.ireturn, 1) := by decide +kernel
theorem de_S_breaks_71 : decode cd_S_breaks 71 = .ok (.aload_n 0, 1) := by decide +kernel
theorem de_S_breaks_72 : decode cd_S_breaks 72 = .ok (.iload_n 2, 1) := by decide +kernel
theorem de_S_breaks_73 : decode cd_S_breaks 73 = .ok (.invokevirtual 167, 3) := by decide +kernel
theorem de_S_breaks_76 : decode cd_S_breaks 76 = .ok (.aload_n 0, 1) := by decide +kernel
theorem de_S_breaks_77 : decode cd_S_breaks 77 = .ok (.getfield 33, 3) := by decide +kernel
theorem de_S_breaks_80 : decode cd_S_breaks 80 = .ok (.iload_n 1, 1) := by decide +kernel
theorem de_S_breaks_81 : decode cd_S_breaks 81 = .ok (.aload_n 0, 1) := by decide +kernel
theorem de_S_breaks_82 : decode cd_S_breaks 82 = .ok (.getfield 61, 3) := by decide +kernel
theorem de_S_breaks_85 : decode cd_S_breaks 85 = .ok (.invokevirtual 171, 3) := by decide +kernel
theorem de_S_breaks_88 : decode cd_S_breaks 88 = .ok (.aload_n 0, 1) := by decide +kernel
theorem de_S_breaks_89 : decode cd_S_breaks 89 = .ok (.getfield 61, 3) := by decide +kernel
theorem de_S_breaks_92 : decode cd_S_breaks 92 = .ok (.invokevirtual 339, 3) := by decide +kernel
theorem de_S_breaks_95 : decode cd_S_breaks 95 = .ok (.invokevirtual 335, 3) := by decide +kernel
theorem de_S_breaks_98 : decode cd_S_breaks 98 = .ok (.ifCond .ne 7, 3) := by decide +kernel
theorem de_S_breaks_101 : decode cd_S_breaks 101 = .ok (.iconst 1, 1) := by decide +kernel
theorem de_S_breaks_102 : decode cd_S_breaks 102 = .ok (.goto 4, 3) := by decide +kernel
theorem de_S_breaks_105 : decode cd_S_breaks 105 = .ok (.iconst 0, 1) := by decide +kernel
theorem de_S_breaks_106 : decode cd_S_breaks 106 = .ok (.ireturn, 1) := by decide +kernel
abbrev cd_S_shearAt : ByteArray := prog_1_method_28_code
abbrev yn_S_shearAt : MethodName := ⟨"StabilitySums", "shearAt", "(I)J"⟩
theorem de_S_shearAt_0 : decode cd_S_shearAt 0 = .ok (.aload_n 0, 1) := by decide +kernel
theorem de_S_shearAt_1 : decode cd_S_shearAt 1 = .ok (.getfield 54, 3) := by decide +kernel
theorem de_S_shearAt_4 : decode cd_S_shearAt 4 = .ok (.getfield 185, 3) := by decide +kernel
theorem de_S_shearAt_7 : decode cd_S_shearAt 7 = .ok (.iload_n 1, 1) := by decide +kernel
theorem de_S_shearAt_8 : decode cd_S_shearAt 8 = .ok (.laload, 1) := by decide +kernel
theorem de_S_shearAt_9 : decode cd_S_shearAt 9 = .ok (.lstore_n 2, 1) := by decide +kernel
theorem de_S_shearAt_10 : decode cd_S_shearAt 10 = .ok (.aload_n 0, 1) := by decide +kernel
theorem de_S_shearAt_11 : decode cd_S_shearAt 11 = .ok (.getfield 54, 3) := by decide +kernel
theorem de_S_shearAt_14 : decode cd_S_shearAt 14 = .ok (.getfield 322, 3) := by decide +kernel
theorem de_S_shearAt_17 : decode cd_S_shearAt 17 = .ok (.iload_n 1, 1) := by decide +kernel
theorem de_S_shearAt_18 : decode cd_S_shearAt 18 = .ok (.laload, 1) := by decide +kernel
theorem de_S_shearAt_19 : decode cd_S_shearAt 19 = .ok (.lstore 4, 2) := by decide +kernel
theorem de_S_shearAt_21 : decode cd_S_shearAt 21 = .ok (.lload_n 2, 1) := by decide +kernel
theorem de_S_shearAt_22 : decode cd_S_shearAt 22 = .ok (.aload_n 0, 1) := by decide +kernel
theorem de_S_shearAt_23 : decode cd_S_shearAt 23 = .ok (.getfield 65, 3) := by decide +kernel
theorem de_S_shearAt_26 : decode cd_S_shearAt 26 = .ok (.lcmp, 1) := by decide +kernel
theorem de_S_shearAt_27 : decode cd_S_shearAt 27 = .ok (.ifCond .gt 6, 3) := by decide +kernel
theorem de_S_shearAt_30 : decode cd_S_shearAt 30 = .ok (.lload 4, 2) := by decide +kernel
theorem de_S_shearAt_32 : decode cd_S_shearAt 32 = .ok (.lreturn, 1) := by decide +kernel
theorem de_S_shearAt_33 : decode cd_S_shearAt 33 = .ok (.lload_n 2, 1) := by decide +kernel
theorem de_S_shearAt_34 : decode cd_S_shearAt 34 = .ok (.aload_n 0, 1) := by decide +kernel
theorem de_S_shearAt_35 : decode cd_S_shearAt 35 = .ok (.getfield 71, 3) := by decide +kernel
theorem de_S_shearAt_38 : decode cd_S_shearAt 38 = .ok (.lcmp, 1) := by decide +kernel
theorem de_S_shearAt_39 : decode cd_S_shearAt 39 = .ok (.ifCond .lt 14, 3) := by decide +kernel
theorem de_S_shearAt_42 : decode cd_S_shearAt 42 = .ok (.lload 4, 2) := by decide +kernel
theorem de_S_shearAt_44 : decode cd_S_shearAt 44 = .ok (.aload_n 0, 1) := by decide +kernel
theorem de_S_shearAt_45 : decode cd_S_shearAt 45 = .ok (.getfield 47, 3) := by decide +kernel
theorem de_S_shearAt_48 : decode cd_S_shearAt 48 = .ok (.getfield 300, 3) := by decide +kernel
theorem de_S_shearAt_51 : decode cd_S_shearAt 51 = .ok (.lsub, 1) := by decide +kernel
theorem de_S_shearAt_52 : decode cd_S_shearAt 52 = .ok (.lreturn, 1) := by decide +kernel
theorem de_S_shearAt_53 : decode cd_S_shearAt 53 = .ok (.aload_n 0, 1) := by decide +kernel
theorem de_S_shearAt_54 : decode cd_S_shearAt 54 = .ok (.getfield 71, 3) := by decide +kernel
theorem de_S_shearAt_57 : decode cd_S_shearAt 57 = .ok (.aload_n 0, 1) := by decide +kernel
theorem de_S_shearAt_58 : decode cd_S_shearAt 58 = .ok (.getfield 65, 3) := by decide +kernel
theorem de_S_shearAt_61 : decode cd_S_shearAt 61 = .ok (.lsub, 1) := by decide +kernel
theorem de_S_shearAt_62 : decode cd_S_shearAt 62 = .ok (.lstore 6, 2) := by decide +kernel
theorem de_S_shearAt_64 : decode cd_S_shearAt 64 = .ok (.lload 4, 2) := by decide +kernel
theorem de_S_shearAt_66 : decode cd_S_shearAt 66 = .ok (.lload 6, 2) := by decide +kernel
theorem de_S_shearAt_68 : decode cd_S_shearAt 68 = .ok (.lmul, 1) := by decide +kernel
theorem de_S_shearAt_69 : decode cd_S_shearAt 69 = .ok (.aload_n 0, 1) := by decide +kernel
theorem de_S_shearAt_70 : decode cd_S_shearAt 70 = .ok (.getfield 47, 3) := by decide +kernel
theorem de_S_shearAt_73 : decode cd_S_shearAt 73 = .ok (.getfield 300, 3) := by decide +kernel
theorem de_S_shearAt_76 : decode cd_S_shearAt 76 = .ok (.lload_n 2, 1) := by decide +kernel
theorem de_S_shearAt_77 : decode cd_S_shearAt 77 = .ok (.aload_n 0, 1) := by decide +kernel
theorem de_S_shearAt_78 : decode cd_S_shearAt 78 = .ok (.getfield 65, 3) := by decide +kernel
theorem de_S_shearAt_81 : decode cd_S_shearAt 81 = .ok (.lsub, 1) := by decide +kernel
theorem de_S_shearAt_82 : decode cd_S_shearAt 82 = .ok (.lmul, 1) := by decide +kernel
theorem de_S_shearAt_83 : decode cd_S_shearAt 83 = .ok (.lsub, 1) := by decide +kernel
theorem de_S_shearAt_84 : decode cd_S_shearAt 84 = .ok (.lload 6, 2) := by decide +kernel
theorem de_S_shearAt_86 : decode cd_S_shearAt 86 = .ok (.invokestatic 323, 3) := by decide +kernel
theorem de_S_shearAt_89 : decode cd_S_shearAt 89 = .ok (.lreturn, 1) := by decide +kernel
abbrev cd_S_divideDown : ByteArray := prog_1_method_21_code
abbrev yn_S_divideDown : MethodName := ⟨"StabilitySums", "divideDown", "(JJ)J"⟩
theorem de_S_divideDown_0 : decode cd_S_divideDown 0 = .ok (.lload_n 2, 1) := by decide +kernel
theorem de_S_divideDown_1 : decode cd_S_divideDown 1 = .ok (.lconst 0, 1) := by decide +kernel
theorem de_S_divideDown_2 : decode cd_S_divideDown 2 = .ok (.lcmp, 1) := by decide +kernel
theorem de_S_divideDown_3 : decode cd_S_divideDown 3 = .ok (.ifCond .le 11, 3) := by decide +kernel
theorem de_S_divideDown_6 : decode cd_S_divideDown 6 = .ok (.lload_n 0, 1) := by decide +kernel
theorem de_S_divideDown_7 : decode cd_S_divideDown 7 = .ok (.lload_n 2, 1) := by decide +kernel
theorem de_S_divideDown_8 : decode cd_S_divideDown 8 = .ok (.invokestatic 241, 3) := by decide +kernel
theorem de_S_divideDown_11 : decode cd_S_divideDown 11 = .ok (.goto 4, 3) := by decide +kernel
theorem de_S_divideDown_14 : decode cd_S_divideDown 14 = .ok (.lconst 0, 1) := by decide +kernel
theorem de_S_divideDown_15 : decode cd_S_divideDown 15 = .ok (.lreturn, 1) := by decide +kernel
abbrev cd_J_floorDiv : ByteArray := prog_17_method_49_code
abbrev yn_J_floorDiv : MethodName := ⟨"java/lang/Math", "floorDiv", "(JJ)J"⟩
theorem de_J_floorDiv_0 : decode cd_J_floorDiv 0 = .ok (.lload_n 0, 1) := by decide +kernel
theorem de_J_floorDiv_1 : decode cd_J_floorDiv 1 = .ok (.lload_n 2, 1) := by decide +kernel
theorem de_J_floorDiv_2 : decode cd_J_floorDiv 2 = .ok (.ldiv, 1) := by decide +kernel
theorem de_J_floorDiv_3 : decode cd_J_floorDiv 3 = .ok (.lstore 4, 2) := by decide +kernel
theorem de_J_floorDiv_5 : decode cd_J_floorDiv 5 = .ok (.lload_n 0, 1) := by decide +kernel
theorem de_J_floorDiv_6 : decode cd_J_floorDiv 6 = .ok (.lload_n 2, 1) := by decide +kernel
theorem de_J_floorDiv_7 : decode cd_J_floorDiv 7 = .ok (.lxor, 1) := by decide +kernel
theorem de_J_floorDiv_8 : decode cd_J_floorDiv 8 = .ok (.lconst 0, 1) := by decide +kernel
theorem de_J_floorDiv_9 : decode cd_J_floorDiv 9 = .ok (.lcmp, 1) := by decide +kernel
theorem de_J_floorDiv_10 : decode cd_J_floorDiv 10 = .ok (.ifCond .ge 17, 3) := by decide +kernel
theorem de_J_floorDiv_13 : decode cd_J_floorDiv 13 = .ok (.lload 4, 2) := by decide +kernel
theorem de_J_floorDiv_15 : decode cd_J_floorDiv 15 = .ok (.lload_n 2, 1) := by decide +kernel
theorem de_J_floorDiv_16 : decode cd_J_floorDiv 16 = .ok (.lmul, 1) := by decide +kernel
theorem de_J_floorDiv_17 : decode cd_J_floorDiv 17 = .ok (.lload_n 0, 1) := by decide +kernel
theorem de_J_floorDiv_18 : decode cd_J_floorDiv 18 = .ok (.lcmp, 1) := by decide +kernel
theorem de_J_floorDiv_19 : decode cd_J_floorDiv 19 = .ok (.ifCond .eq 8, 3) := by decide +kernel
theorem de_J_floorDiv_22 : decode cd_J_floorDiv 22 = .ok (.lload 4, 2) := by decide +kernel
theorem de_J_floorDiv_24 : decode cd_J_floorDiv 24 = .ok (.lconst 1, 1) := by decide +kernel
theorem de_J_floorDiv_25 : decode cd_J_floorDiv 25 = .ok (.lsub, 1) := by decide +kernel
theorem de_J_floorDiv_26 : decode cd_J_floorDiv 26 = .ok (.lreturn, 1) := by decide +kernel
theorem de_J_floorDiv_27 : decode cd_J_floorDiv 27 = .ok (.lload 4, 2) := by decide +kernel
theorem de_J_floorDiv_29 : decode cd_J_floorDiv 29 = .ok (.lreturn, 1) := by decide +kernel
abbrev cd_S_bendingAt : ByteArray := prog_1_method_29_code
abbrev yn_S_bendingAt : MethodName := ⟨"StabilitySums", "bendingAt", "(I)J"⟩
theorem de_S_bendingAt_0 : decode cd_S_bendingAt 0 = .ok (.aload_n 0, 1) := by decide +kernel
theorem de_S_bendingAt_1 : decode cd_S_bendingAt 1 = .ok (.getfield 54, 3) := by decide +kernel
theorem de_S_bendingAt_4 : decode cd_S_bendingAt 4 = .ok (.getfield 185, 3) := by decide +kernel
theorem de_S_bendingAt_7 : decode cd_S_bendingAt 7 = .ok (.iload_n 1, 1) := by decide +kernel
theorem de_S_bendingAt_8 : decode cd_S_bendingAt 8 = .ok (.laload, 1) := by decide +kernel
theorem de_S_bendingAt_9 : decode cd_S_bendingAt 9 = .ok (.lstore_n 2, 1) := by decide +kernel
theorem de_S_bendingAt_10 : decode cd_S_bendingAt 10 = .ok (.aload_n 0, 1) := by decide +kernel
theorem de_S_bendingAt_11 : decode cd_S_bendingAt 11 = .ok (.getfield 54, 3) := by decide +kernel
theorem de_S_bendingAt_14 : decode cd_S_bendingAt 14 = .ok (.getfield 326, 3) := by decide +kernel
theorem de_S_bendingAt_17 : decode cd_S_bendingAt 17 = .ok (.iload_n 1, 1) := by decide +kernel
theorem de_S_bendingAt_18 : decode cd_S_bendingAt 18 = .ok (.laload, 1) := by decide +kernel
theorem de_S_bendingAt_19 : decode cd_S_bendingAt 19 = .ok (.lstore 4, 2) := by decide +kernel
theorem de_S_bendingAt_21 : decode cd_S_bendingAt 21 = .ok (.lload_n 2, 1) := by decide +kernel
theorem de_S_bendingAt_22 : decode cd_S_bendingAt 22 = .ok (.aload_n 0, 1) := by decide +kernel
theorem de_S_bendingAt_23 : decode cd_S_bendingAt 23 = .ok (.getfield 65, 3) := by decide +kernel
theorem de_S_bendingAt_26 : decode cd_S_bendingAt 26 = .ok (.lcmp, 1) := by decide +kernel
theorem de_S_bendingAt_27 : decode cd_S_bendingAt 27 = .ok (.ifCond .gt 6, 3) := by decide +kernel
theorem de_S_bendingAt_30 : decode cd_S_bendingAt 30 = .ok (.lload 4, 2) := by decide +kernel
theorem de_S_bendingAt_32 : decode cd_S_bendingAt 32 = .ok (.lreturn, 1) := by decide +kernel
theorem de_S_bendingAt_33 : decode cd_S_bendingAt 33 = .ok (.lload_n 2, 1) := by decide +kernel
theorem de_S_bendingAt_34 : decode cd_S_bendingAt 34 = .ok (.aload_n 0, 1) := by decide +kernel
theorem de_S_bendingAt_35 : decode cd_S_bendingAt 35 = .ok (.getfield 71, 3) := by decide +kernel
theorem de_S_bendingAt_38 : decode cd_S_bendingAt 38 = .ok (.lcmp, 1) := by decide +kernel
theorem de_S_bendingAt_39 : decode cd_S_bendingAt 39 = .ok (.ifCond .lt 40, 3) := by decide +kernel
theorem de_S_bendingAt_42 : decode cd_S_bendingAt 42 = .ok (.ldc2_w 151, 3) := by decide +kernel
theorem de_S_bendingAt_45 : decode cd_S_bendingAt 45 = .ok (.lload 4, 2) := by decide +kernel
theorem de_S_bendingAt_47 : decode cd_S_bendingAt 47 = .ok (.lmul, 1) := by decide +kernel
theorem de_S_bendingAt_48 : decode cd_S_bendingAt 48 = .ok (.aload_n 0, 1) := by decide +kernel
theorem de_S_bendingAt_49 : decode cd_S_bendingAt 49 = .ok (.getfield 47, 3) := by decide +kernel
theorem de_S_bendingAt_52 : decode cd_S_bendingAt 52 = .ok (.getfield 300, 3) := by decide +kernel
theorem de_S_bendingAt_55 : decode cd_S_bendingAt 55 = .ok (.ldc2_w 151, 3) := by decide +kernel
theorem de_S_bendingAt_58 : decode cd_S_bendingAt 58 = .ok (.lload_n 2, 1) := by decide +kernel
theorem de_S_bendingAt_59 : decode cd_S_bendingAt 59 = .ok (.lmul, 1) := by decide +kernel
theorem de_S_bendingAt_60 : decode cd_S_bendingAt 60 = .ok (.aload_n 0, 1) := by decide +kernel
theorem de_S_bendingAt_61 : decode cd_S_bendingAt 61 = .ok (.getfield 65, 3) := by decide +kernel
theorem de_S_bendingAt_64 : decode cd_S_bendingAt 64 = .ok (.lsub, 1) := by decide +kernel
theorem de_S_bendingAt_65 : decode cd_S_bendingAt 65 = .ok (.aload_n 0, 1) := by decide +kernel
theorem de_S_bendingAt_66 : decode cd_S_bendingAt 66 = .ok (.getfield 71, 3) := by decide +kernel
theorem de_S_bendingAt_69 : decode cd_S_bendingAt 69 = .ok (.lsub, 1) := by decide +kernel
theorem de_S_bendingAt_70 : decode cd_S_bendingAt 70 = .ok (.lmul, 1) := by decide +kernel
theorem de_S_bendingAt_71 : decode cd_S_bendingAt 71 = .ok (.lsub, 1) := by decide +kernel
theorem de_S_bendingAt_72 : decode cd_S_bendingAt 72 = .ok (.ldc2_w 151, 3) := by decide +kernel
theorem de_S_bendingAt_75 : decode cd_S_bendingAt 75 = .ok (.invokestatic 323, 3) := by decide +kernel
theorem de_S_bendingAt_78 : decode cd_S_bendingAt 78 = .ok (.lreturn, 1) := by decide +kernel
theorem de_S_bendingAt_79 : decode cd_S_bendingAt 79 = .ok (.lload_n 2, 1) := by decide +kernel
theorem de_S_bendingAt_80 : decode cd_S_bendingAt 80 = .ok (.aload_n 0, 1) := by decide +kernel
theorem de_S_bendingAt_81 : decode cd_S_bendingAt 81 = .ok (.getfield 65, 3) := by decide +kernel
theorem de_S_bendingAt_84 : decode cd_S_bendingAt 84 = .ok (.lsub, 1) := by decide +kernel
theorem de_S_bendingAt_85 : decode cd_S_bendingAt 85 = .ok (.lstore 6, 2) := by decide +kernel
theorem de_S_bendingAt_87 : decode cd_S_bendingAt 87 = .ok (.ldc2_w 151, 3) := by decide +kernel
theorem de_S_bendingAt_90 : decode cd_S_bendingAt 90 = .ok (.aload_n 0, 1) := by decide +kernel
theorem de_S_bendingAt_91 : decode cd_S_bendingAt 91 = .ok (.getfield 71, 3) := by decide +kernel
theorem de_S_bendingAt_94 : decode cd_S_bendingAt 94 = .ok (.aload_n 0, 1) := by decide +kernel
theorem de_S_bendingAt_95 : decode cd_S_bendingAt 95 = .ok (.getfield 65, 3) := by decide +kernel
theorem de_S_bendingAt_98 : decode cd_S_bendingAt 98 = .ok (.lsub, 1) := by decide +kernel
theorem de_S_bendingAt_99 : decode cd_S_bendingAt 99 = .ok (.lmul, 1) := by decide +kernel
theorem de_S_bendingAt_100 : decode cd_S_bendingAt 100 = .ok (.lstore 8, 2) := by decide +kernel
theorem de_S_bendingAt_102 : decode cd_S_bendingAt 102 = .ok (.lload 4, 2) := by decide +kernel
theorem de_S_bendingAt_104 : decode cd_S_bendingAt 104 = .ok (.lload 8, 2) := by decide +kernel
theorem de_S_bendingAt_106 : decode cd_S_bendingAt 106 = .ok (.lmul, 1) := by decide +kernel
theorem de_S_bendingAt_107 : decode cd_S_bendingAt 107 = .ok (.aload_n 0, 1) := by decide +kernel
theorem de_S_bendingAt_108 : decode cd_S_bendingAt 108 = .ok (.getfield 47, 3) := by decide +kernel
theorem de_S_bendingAt_111 : decode cd_S_bendingAt 111 = .ok (.getfield 300, 3) := by decide +kernel
theorem de_S_bendingAt_114 : decode cd_S_bendingAt 114 = .ok (.lload 6, 2) := by decide +kernel
theorem de_S_bendingAt_116 : decode cd_S_bendingAt 116 = .ok (.lmul, 1) := by decide +kernel
theorem de_S_bendingAt_117 : decode cd_S_bendingAt 117 = .ok (.lload 6, 2) := by decide +kernel
theorem de_S_bendingAt_119 : decode cd_S_bendingAt 119 = .ok (.lmul, 1) := by decide +kernel
theorem de_S_bendingAt_120 : decode cd_S_bendingAt 120 = .ok (.lsub, 1) := by decide +kernel
theorem de_S_bendingAt_121 : decode cd_S_bendingAt 121 = .ok (.lload 8, 2) := by decide +kernel
theorem de_S_bendingAt_123 : decode cd_S_bendingAt 123 = .ok (.invokestatic 323, 3) := by decide +kernel
theorem de_S_bendingAt_126 : decode cd_S_bendingAt 126 = .ok (.lreturn, 1) := by decide +kernel
abbrev cd_L_allows : ByteArray := prog_4_method_3_code
abbrev yn_L_allows : MethodName := ⟨"StabilitySums$Limits", "allows", "(IJJ)Z"⟩
theorem de_L_allows_0 : decode cd_L_allows 0 = .ok (.lload_n 2, 1) := by decide +kernel
theorem de_L_allows_1 : decode cd_L_allows 1 = .ok (.aload_n 0, 1) := by decide +kernel
theorem de_L_allows_2 : decode cd_L_allows 2 = .ok (.getfield 15, 3) := by decide +kernel
theorem de_L_allows_5 : decode cd_L_allows 5 = .ok (.iload_n 1, 1) := by decide +kernel
theorem de_L_allows_6 : decode cd_L_allows 6 = .ok (.laload, 1) := by decide +kernel
theorem de_L_allows_7 : decode cd_L_allows 7 = .ok (.lcmp, 1) := by decide +kernel
theorem de_L_allows_8 : decode cd_L_allows 8 = .ok (.ifCond .lt 19, 3) := by decide +kernel
theorem de_L_allows_11 : decode cd_L_allows 11 = .ok (.lload 4, 2) := by decide +kernel
theorem de_L_allows_13 : decode cd_L_allows 13 = .ok (.aload_n 0, 1) := by decide +kernel
theorem de_L_allows_14 : decode cd_L_allows 14 = .ok (.getfield 19, 3) := by decide +kernel
theorem de_L_allows_17 : decode cd_L_allows 17 = .ok (.iload_n 1, 1) := by decide +kernel
theorem de_L_allows_18 : decode cd_L_allows 18 = .ok (.laload, 1) := by decide +kernel
theorem de_L_allows_19 : decode cd_L_allows 19 = .ok (.lcmp, 1) := by decide +kernel
theorem de_L_allows_20 : decode cd_L_allows 20 = .ok (.ifCond .gt 7, 3) := by decide +kernel
theorem de_L_allows_23 : decode cd_L_allows 23 = .ok (.iconst 1, 1) := by decide +kernel
theorem de_L_allows_24 : decode cd_L_allows 24 = .ok (.goto 4, 3) := by decide +kernel
theorem de_L_allows_27 : decode cd_L_allows 27 = .ok (.iconst 0, 1) := by decide +kernel
theorem de_L_allows_28 : decode cd_L_allows 28 = .ok (.ireturn, 1) := by decide +kernel
abbrev cd_S_isWithoutAnswer : ByteArray := prog_1_method_26_code
abbrev yn_S_isWithoutAnswer : MethodName := ⟨"StabilitySums", "isWithoutAnswer", "(I)Z"⟩
theorem de_S_isWithoutAnswer_0 : decode cd_S_isWithoutAnswer 0 = .ok (.aload_n 0, 1) := by decide +kernel
theorem de_S_isWithoutAnswer_1 : decode cd_S_isWithoutAnswer 1 = .ok (.getfield 47, 3) := by decide +kernel
theorem de_S_isWithoutAnswer_4 : decode cd_S_isWithoutAnswer 4 = .ok (.getfield 300, 3) := by decide +kernel
theorem de_S_isWithoutAnswer_7 : decode cd_S_isWithoutAnswer 7 = .ok (.lconst 0, 1) := by decide +kernel
theorem de_S_isWithoutAnswer_8 : decode cd_S_isWithoutAnswer 8 = .ok (.lcmp, 1) := by decide +kernel
theorem de_S_isWithoutAnswer_9 : decode cd_S_isWithoutAnswer 9 = .ok (.ifCond .ne 17, 3) := by decide +kernel
theorem de_S_isWithoutAnswer_12 : decode cd_S_isWithoutAnswer 12 = .ok (.iload_n 1, 1) := by decide +kernel
theorem de_S_isWithoutAnswer_13 : decode cd_S_isWithoutAnswer 13 = .ok (.ifCond .eq 13, 3) := by decide +kernel
theorem de_S_isWithoutAnswer_16 : decode cd_S_isWithoutAnswer 16 = .ok (.iload_n 1, 1) := by decide +kernel
theorem de_S_isWithoutAnswer_17 : decode cd_S_isWithoutAnswer 17 = .ok (.bipush 6, 2) := by decide +kernel
theorem de_S_isWithoutAnswer_19 : decode cd_S_isWithoutAnswer 19 = .ok (.if_icmp .eq 7, 3) := by decide +kernel
theorem de_S_isWithoutAnswer_22 : decode cd_S_isWithoutAnswer 22 = .ok (.iconst 1, 1) := by decide +kernel
theorem de_S_isWithoutAnswer_23 : decode cd_S_isWithoutAnswer 23 = .ok (.goto 4, 3) := by decide +kernel
theorem de_S_isWithoutAnswer_26 : decode cd_S_isWithoutAnswer 26 = .ok (.iconst 0, 1) := by decide +kernel
theorem de_S_isWithoutAnswer_27 : decode cd_S_isWithoutAnswer 27 = .ok (.ireturn, 1) := by decide +kernel
abbrev cd_S_work : ByteArray := prog_1_method_27_code
abbrev yn_S_work : MethodName := ⟨"StabilitySums", "work", "(I)V"⟩
theorem de_S_work_0 : decode cd_S_work 0 = .ok (.aload_n 0, 1) := by decide +kernel
theorem de_S_work_1 : decode cd_S_work 1 = .ok (.getfield 47, 3) := by decide +kernel
theorem de_S_work_4 : decode cd_S_work 4 = .ok (.getfield 300, 3) := by decide +kernel
theorem de_S_work_7 : decode cd_S_work 7 = .ok (.lstore_n 2, 1) := by decide +kernel
theorem de_S_work_8 : decode cd_S_work 8 = .ok (.iload_n 1, 1) := by decide +kernel
theorem de_S_work_9 : decode cd_S_work 9 = .ok (.tableswitch 254 1 7 #[43, 61, 79, 97, 123, 194, 216], 43) := by decide +kernel
theorem de_S_work_52 : decode cd_S_work 52 = .ok (.aload_n 0, 1) := by decide +kernel
theorem de_S_work_53 : decode cd_S_work 53 = .ok (.getfield 61, 3) := by decide +kernel
theorem de_S_work_56 : decode cd_S_work 56 = .ok (.aload_n 0, 1) := by decide +kernel
theorem de_S_work_57 : decode cd_S_work 57 = .ok (.getfield 47, 3) := by decide +kernel
theorem de_S_work_60 : decode cd_S_work 60 = .ok (.getfield 303, 3) := by decide +kernel
theorem de_S_work_63 : decode cd_S_work 63 = .ok (.lload_n 2, 1) := by decide +kernel
theorem de_S_work_64 : decode cd_S_work 64 = .ok (.invokevirtual 305, 3) := by decide +kernel
theorem de_S_work_67 : decode cd_S_work 67 = .ok (.goto 205, 3) := by decide +kernel
theorem de_S_work_70 : decode cd_S_work 70 = .ok (.aload_n 0, 1) := by decide +kernel
theorem de_S_work_71 : decode cd_S_work 71 = .ok (.getfield 61, 3) := by decide +kernel
theorem de_S_work_74 : decode cd_S_work 74 = .ok (.aload_n 0, 1) := by decide +kernel
theorem de_S_work_75 : decode cd_S_work 75 = .ok (.getfield 47, 3) := by decide +kernel
theorem de_S_work_78 : decode cd_S_work 78 = .ok (.getfield 308, 3) := by decide +kernel
theorem de_S_work_81 : decode cd_S_work 81 = .ok (.lload_n 2, 1) := by decide +kernel
theorem de_S_work_82 : decode cd_S_work 82 = .ok (.invokevirtual 305, 3) := by decide +kernel
theorem de_S_work_85 : decode cd_S_work 85 = .ok (.goto 187, 3) := by decide +kernel
theorem de_S_work_88 : decode cd_S_work 88 = .ok (.aload_n 0, 1) := by decide +kernel
theorem de_S_work_89 : decode cd_S_work 89 = .ok (.getfield 61, 3) := by decide +kernel
theorem de_S_work_92 : decode cd_S_work 92 = .ok (.aload_n 0, 1) := by decide +kernel
theorem de_S_work_93 : decode cd_S_work 93 = .ok (.getfield 47, 3) := by decide +kernel
theorem de_S_work_96 : decode cd_S_work 96 = .ok (.getfield 310, 3) := by decide +kernel
theorem de_S_work_99 : decode cd_S_work 99 = .ok (.lload_n 2, 1) := by decide +kernel
theorem de_S_work_100 : decode cd_S_work 100 = .ok (.invokevirtual 305, 3) := by decide +kernel
theorem de_S_work_103 : decode cd_S_work 103 = .ok (.goto 169, 3) := by decide +kernel
theorem de_S_work_106 : decode cd_S_work 106 = .ok (.aload_n 0, 1) := by decide +kernel
theorem de_S_work_107 : decode cd_S_work 107 = .ok (.getfield 61, 3) := by decide +kernel
theorem de_S_work_110 : decode cd_S_work 110 = .ok (.aload_n 0, 1) := by decide +kernel
theorem de_S_work_111 : decode cd_S_work 111 = .ok (.getfield 47, 3) := by decide +kernel
theorem de_S_work_114 : decode cd_S_work 114 = .ok (.getfield 310, 3) := by decide +kernel
theorem de_S_work_117 : decode cd_S_work 117 = .ok (.aload_n 0, 1) := by decide +kernel
theorem de_S_work_118 : decode cd_S_work 118 = .ok (.getfield 47, 3) := by decide +kernel
theorem de_S_work_121 : decode cd_S_work 121 = .ok (.getfield 281, 3) := by decide +kernel
theorem de_S_work_124 : decode cd_S_work 124 = .ok (.ladd, 1) := by decide +kernel
theorem de_S_work_125 : decode cd_S_work 125 = .ok (.lload_n 2, 1) := by decide +kernel
theorem de_S_work_126 : decode cd_S_work 126 = .ok (.invokevirtual 305, 3) := by decide +kernel
theorem de_S_work_129 : decode cd_S_work 129 = .ok (.goto 143, 3) := by decide +kernel
theorem de_S_work_132 : decode cd_S_work 132 = .ok (.aload_n 0, 1) := by decide +kernel
theorem de_S_work_133 : decode cd_S_work 133 = .ok (.getfield 26, 3) := by decide +kernel
theorem de_S_work_136 : decode cd_S_work 136 = .ok (.aload_n 0, 1) := by decide +kernel
theorem de_S_work_137 : decode cd_S_work 137 = .ok (.getfield 26, 3) := by decide +kernel
theorem de_S_work_140 : decode cd_S_work 140 = .ok (.getfield 312, 3) := by decide +kernel
theorem de_S_work_143 : decode cd_S_work 143 = .ok (.lload_n 2, 1) := by decide +kernel
theorem de_S_work_144 : decode cd_S_work 144 = .ok (.aload_n 0, 1) := by decide +kernel
theorem de_S_work_145 : decode cd_S_work 145 = .ok (.getfield 61, 3) := by decide +kernel
theorem de_S_work_148 : decode cd_S_work 148 = .ok (.invokevirtual 315, 3) := by decide +kernel
theorem de_S_work_151 : decode cd_S_work 151 = .ok (.aload_n 0, 1) := by decide +kernel
theorem de_S_work_152 : decode cd_S_work 152 = .ok (.getfield 61, 3) := by decide +kernel
theorem de_S_work_155 : decode cd_S_work 155 = .ok (.aload_n 0, 1) := by decide +kernel
theorem de_S_work_156 : decode cd_S_work 156 = .ok (.getfield 61, 3) := by decide +kernel
theorem de_S_work_159 : decode cd_S_work 159 = .ok (.getfield 177, 3) := by decide +kernel
theorem de_S_work_162 : decode cd_S_work 162 = .ok (.lload_n 2, 1) := by decide +kernel
theorem de_S_work_163 : decode cd_S_work 163 = .ok (.lmul, 1) := by decide +kernel
theorem de_S_work_164 : decode cd_S_work 164 = .ok (.aload_n 0, 1) := by decide +kernel
theorem de_S_work_165 : decode cd_S_work 165 = .ok (.getfield 47, 3) := by decide +kernel
theorem de_S_work_168 : decode cd_S_work 168 = .ok (.getfield 310, 3) := by decide +kernel
theorem de_S_work_171 : decode cd_S_work 171 = .ok (.aload_n 0, 1) := by decide +kernel
theorem de_S_work_172 : decode cd_S_work 172 = .ok (.getfield 47, 3) := by decide +kernel
theorem de_S_work_175 : decode cd_S_work 175 = .ok (.getfield 281, 3) := by decide +kernel
theorem de_S_work_178 : decode cd_S_work 178 = .ok (.ladd, 1) := by decide +kernel
theorem de_S_work_179 : decode cd_S_work 179 = .ok (.aload_n 0, 1) := by decide +kernel
theorem de_S_work_180 : decode cd_S_work 180 = .ok (.getfield 61, 3) := by decide +kernel
theorem de_S_work_183 : decode cd_S_work 183 = .ok (.getfield 180, 3) := by decide +kernel
theorem de_S_work_186 : decode cd_S_work 186 = .ok (.lmul, 1) := by decide +kernel
theorem de_S_work_187 : decode cd_S_work 187 = .ok (.lsub, 1) := by decide +kernel
theorem de_S_work_188 : decode cd_S_work 188 = .ok (.aload_n 0, 1) := by decide +kernel
theorem de_S_work_189 : decode cd_S_work 189 = .ok (.getfield 61, 3) := by decide +kernel
theorem de_S_work_192 : decode cd_S_work 192 = .ok (.getfield 180, 3) := by decide +kernel
theorem de_S_work_195 : decode cd_S_work 195 = .ok (.lload_n 2, 1) := by decide +kernel
theorem de_S_work_196 : decode cd_S_work 196 = .ok (.lmul, 1) := by decide +kernel
theorem de_S_work_197 : decode cd_S_work 197 = .ok (.invokevirtual 305, 3) := by decide +kernel
theorem de_S_work_200 : decode cd_S_work 200 = .ok (.goto 72, 3) := by decide +kernel
theorem de_S_work_203 : decode cd_S_work 203 = .ok (.aload_n 0, 1) := by decide +kernel
theorem de_S_work_204 : decode cd_S_work 204 = .ok (.getfield 26, 3) := by decide +kernel
theorem de_S_work_207 : decode cd_S_work 207 = .ok (.aload_n 0, 1) := by decide +kernel
theorem de_S_work_208 : decode cd_S_work 208 = .ok (.getfield 26, 3) := by decide +kernel
theorem de_S_work_211 : decode cd_S_work 211 = .ok (.getfield 319, 3) := by decide +kernel
theorem de_S_work_214 : decode cd_S_work 214 = .ok (.lload_n 2, 1) := by decide +kernel
theorem de_S_work_215 : decode cd_S_work 215 = .ok (.aload_n 0, 1) := by decide +kernel
theorem de_S_work_216 : decode cd_S_work 216 = .ok (.getfield 61, 3) := by decide +kernel
theorem de_S_work_219 : decode cd_S_work 219 = .ok (.invokevirtual 315, 3) := by decide +kernel
theorem de_S_work_222 : decode cd_S_work 222 = .ok (.goto 50, 3) := by decide +kernel
theorem de_S_work_225 : decode cd_S_work 225 = .ok (.aload_n 0, 1) := by decide +kernel
theorem de_S_work_226 : decode cd_S_work 226 = .ok (.getfield 61, 3) := by decide +kernel
theorem de_S_work_229 : decode cd_S_work 229 = .ok (.ldc2_w 151, 3) := by decide +kernel
theorem de_S_work_232 : decode cd_S_work 232 = .ok (.aload_n 0, 1) := by decide +kernel
theorem de_S_work_233 : decode cd_S_work 233 = .ok (.getfield 47, 3) := by decide +kernel
theorem de_S_work_236 : decode cd_S_work 236 = .ok (.getfield 303, 3) := by decide +kernel
theorem de_S_work_239 : decode cd_S_work 239 = .ok (.lmul, 1) := by decide +kernel
theorem de_S_work_240 : decode cd_S_work 240 = .ok (.lload_n 2, 1) := by decide +kernel
theorem de_S_work_241 : decode cd_S_work 241 = .ok (.aload_n 0, 1) := by decide +kernel
theorem de_S_work_242 : decode cd_S_work 242 = .ok (.getfield 65, 3) := by decide +kernel
theorem de_S_work_245 : decode cd_S_work 245 = .ok (.aload_n 0, 1) := by decide +kernel
theorem de_S_work_246 : decode cd_S_work 246 = .ok (.getfield 71, 3) := by decide +kernel
theorem de_S_work_249 : decode cd_S_work 249 = .ok (.ladd, 1) := by decide +kernel
theorem de_S_work_250 : decode cd_S_work 250 = .ok (.lmul, 1) := by decide +kernel
theorem de_S_work_251 : decode cd_S_work 251 = .ok (.lsub, 1) := by decide +kernel
theorem de_S_work_252 : decode cd_S_work 252 = .ok (.ldc2_w 151, 3) := by decide +kernel
theorem de_S_work_255 : decode cd_S_work 255 = .ok (.lload_n 2, 1) := by decide +kernel
theorem de_S_work_256 : decode cd_S_work 256 = .ok (.lmul, 1) := by decide +kernel
theorem de_S_work_257 : decode cd_S_work 257 = .ok (.invokevirtual 305, 3) := by decide +kernel
theorem de_S_work_260 : decode cd_S_work 260 = .ok (.goto 12, 3) := by decide +kernel
theorem de_S_work_263 : decode cd_S_work 263 = .ok (.aload_n 0, 1) := by decide +kernel
theorem de_S_work_264 : decode cd_S_work 264 = .ok (.getfield 61, 3) := by decide +kernel
theorem de_S_work_267 : decode cd_S_work 267 = .ok (.lload_n 2, 1) := by decide +kernel
theorem de_S_work_268 : decode cd_S_work 268 = .ok (.lconst 1, 1) := by decide +kernel
theorem de_S_work_269 : decode cd_S_work 269 = .ok (.invokevirtual 305, 3) := by decide +kernel
theorem de_S_work_272 : decode cd_S_work 272 = .ok (.return_, 1) := by decide +kernel
abbrev cd_F_put : ByteArray := prog_3_method_2_code
abbrev yn_F_put : MethodName := ⟨"StabilitySums$Fraction", "put", "(JJ)V"⟩
theorem de_F_put_0 : decode cd_F_put 0 = .ok (.lload_n 3, 1) := by decide +kernel
theorem de_F_put_1 : decode cd_F_put 1 = .ok (.lconst 0, 1) := by decide +kernel
theorem de_F_put_2 : decode cd_F_put 2 = .ok (.lcmp, 1) := by decide +kernel
theorem de_F_put_3 : decode cd_F_put 3 = .ok (.ifCond .ne 14, 3) := by decide +kernel
theorem de_F_put_6 : decode cd_F_put 6 = .ok (.aload_n 0, 1) := by decide +kernel
theorem de_F_put_7 : decode cd_F_put 7 = .ok (.lconst 0, 1) := by decide +kernel
theorem de_F_put_8 : decode cd_F_put 8 = .ok (.putfield 7, 3) := by decide +kernel
theorem de_F_put_11 : decode cd_F_put 11 = .ok (.aload_n 0, 1) := by decide +kernel
theorem de_F_put_12 : decode cd_F_put 12 = .ok (.lconst 1, 1) := by decide +kernel
theorem de_F_put_13 : decode cd_F_put 13 = .ok (.putfield 13, 3) := by decide +kernel
theorem de_F_put_16 : decode cd_F_put 16 = .ok (.return_, 1) := by decide +kernel
theorem de_F_put_17 : decode cd_F_put 17 = .ok (.aload_n 0, 1) := by decide +kernel
theorem de_F_put_18 : decode cd_F_put 18 = .ok (.lload_n 3, 1) := by decide +kernel
theorem de_F_put_19 : decode cd_F_put 19 = .ok (.lconst 0, 1) := by decide +kernel
theorem de_F_put_20 : decode cd_F_put 20 = .ok (.lcmp, 1) := by decide +kernel
theorem de_F_put_21 : decode cd_F_put 21 = .ok (.ifCond .ge 8, 3) := by decide +kernel
theorem de_F_put_24 : decode cd_F_put 24 = .ok (.lload_n 1, 1) := by decide +kernel
theorem de_F_put_25 : decode cd_F_put 25 = .ok (.lneg, 1) := by decide +kernel
theorem de_F_put_26 : decode cd_F_put 26 = .ok (.goto 4, 3) := by decide +kernel
theorem de_F_put_29 : decode cd_F_put 29 = .ok (.lload_n 1, 1) := by decide +kernel
theorem de_F_put_30 : decode cd_F_put 30 = .ok (.putfield 7, 3) := by decide +kernel
theorem de_F_put_33 : decode cd_F_put 33 = .ok (.aload_n 0, 1) := by decide +kernel
theorem de_F_put_34 : decode cd_F_put 34 = .ok (.lload_n 3, 1) := by decide +kernel
theorem de_F_put_35 : decode cd_F_put 35 = .ok (.lconst 0, 1) := by decide +kernel
theorem de_F_put_36 : decode cd_F_put 36 = .ok (.lcmp, 1) := by decide +kernel
theorem de_F_put_37 : decode cd_F_put 37 = .ok (.ifCond .ge 8, 3) := by decide +kernel
theorem de_F_put_40 : decode cd_F_put 40 = .ok (.lload_n 3, 1) := by decide +kernel
theorem de_F_put_41 : decode cd_F_put 41 = .ok (.lneg, 1) := by decide +kernel
theorem de_F_put_42 : decode cd_F_put 42 = .ok (.goto 4, 3) := by decide +kernel
theorem de_F_put_45 : decode cd_F_put 45 = .ok (.lload_n 3, 1) := by decide +kernel
theorem de_F_put_46 : decode cd_F_put 46 = .ok (.putfield 13, 3) := by decide +kernel
theorem de_F_put_49 : decode cd_F_put 49 = .ok (.return_, 1) := by decide +kernel
abbrev cd_B_read : ByteArray := prog_7_method_4_code
abbrev yn_B_read : MethodName := ⟨"StabilitySums$Table", "read", "([JJLStabilitySums$Fraction;)V"⟩
theorem de_B_read_0 : decode cd_B_read 0 = .ok (.iconst 0, 1) := by decide +kernel
theorem de_B_read_1 : decode cd_B_read 1 = .ok (.istore 5, 2) := by decide +kernel
theorem de_B_read_3 : decode cd_B_read 3 = .ok (.iload 5, 2) := by decide +kernel
theorem de_B_read_5 : decode cd_B_read 5 = .ok (.aload_n 0, 1) := by decide +kernel
theorem de_B_read_6 : decode cd_B_read 6 = .ok (.getfield 21, 3) := by decide +kernel
theorem de_B_read_9 : decode cd_B_read 9 = .ok (.if_icmp .ge 21, 3) := by decide +kernel
theorem de_B_read_12 : decode cd_B_read 12 = .ok (.aload_n 0, 1) := by decide +kernel
theorem de_B_read_13 : decode cd_B_read 13 = .ok (.getfield 9, 3) := by decide +kernel
theorem de_B_read_16 : decode cd_B_read 16 = .ok (.iload 5, 2) := by decide +kernel
theorem de_B_read_18 : decode cd_B_read 18 = .ok (.laload, 1) := by decide +kernel
theorem de_B_read_19 : decode cd_B_read 19 = .ok (.lload_n 2, 1) := by decide +kernel
theorem de_B_read_20 : decode cd_B_read 20 = .ok (.lcmp, 1) := by decide +kernel
theorem de_B_read_21 : decode cd_B_read 21 = .ok (.ifCond .ge 9, 3) := by decide +kernel
theorem de_B_read_24 : decode cd_B_read 24 = .ok (.iinc 5 1, 3) := by decide +kernel
theorem de_B_read_27 : decode cd_B_read 27 = .ok (.goto (-24), 3) := by decide +kernel
theorem de_B_read_30 : decode cd_B_read 30 = .ok (.aload_n 0, 1) := by decide +kernel
theorem de_B_read_31 : decode cd_B_read 31 = .ok (.getfield 21, 3) := by decide +kernel
theorem de_B_read_34 : decode cd_B_read 34 = .ok (.ifCond .ne 13, 3) := by decide +kernel
theorem de_B_read_37 : decode cd_B_read 37 = .ok (.aload 4, 2) := by decide +kernel
theorem de_B_read_39 : decode cd_B_read 39 = .ok (.lconst 0, 1) := by decide +kernel
theorem de_B_read_40 : decode cd_B_read 40 = .ok (.lconst 1, 1) := by decide +kernel
theorem de_B_read_41 : decode cd_B_read 41 = .ok (.invokevirtual 25, 3) := by decide +kernel
theorem de_B_read_44 : decode cd_B_read 44 = .ok (.goto 113, 3) := by decide +kernel
theorem de_B_read_47 : decode cd_B_read 47 = .ok (.iload 5, 2) := by decide +kernel
theorem de_B_read_49 : decode cd_B_read 49 = .ok (.ifCond .ne 15, 3) := by decide +kernel
theorem de_B_read_52 : decode cd_B_read 52 = .ok (.aload 4, 2) := by decide +kernel
theorem de_B_read_54 : decode cd_B_read 54 = .ok (.aload_n 1, 1) := by decide +kernel
theorem de_B_read_55 : decode cd_B_read 55 = .ok (.iconst 0, 1) := by decide +kernel
theorem de_B_read_56 : decode cd_B_read 56 = .ok (.laload, 1) := by decide +kernel
theorem de_B_read_57 : decode cd_B_read 57 = .ok (.lconst 1, 1) := by decide +kernel
theorem de_B_read_58 : decode cd_B_read 58 = .ok (.invokevirtual 25, 3) := by decide +kernel
theorem de_B_read_61 : decode cd_B_read 61 = .ok (.goto 96, 3) := by decide +kernel
theorem de_B_read_64 : decode cd_B_read 64 = .ok (.iload 5, 2) := by decide +kernel
theorem de_B_read_66 : decode cd_B_read 66 = .ok (.aload_n 0, 1) := by decide +kernel
theorem de_B_read_67 : decode cd_B_read 67 = .ok (.getfield 21, 3) := by decide +kernel
theorem de_B_read_70 : decode cd_B_read 70 = .ok (.if_icmp .ne 20, 3) := by decide +kernel
theorem de_B_read_73 : decode cd_B_read 73 = .ok (.aload 4, 2) := by decide +kernel
theorem de_B_read_75 : decode cd_B_read 75 = .ok (.aload_n 1, 1) := by decide +kernel
theorem de_B_read_76 : decode cd_B_read 76 = .ok (.aload_n 0, 1) := by decide +kernel
theorem de_B_read_77 : decode cd_B_read 77 = .ok (.getfield 21, 3) := by decide +kernel
theorem de_B_read_80 : decode cd_B_read 80 = .ok (.iconst 1, 1) := by decide +kernel
theorem de_B_read_81 : decode cd_B_read 81 = .ok (.isub, 1) := by decide +kernel
theorem de_B_read_82 : decode cd_B_read 82 = .ok (.laload, 1) := by decide +kernel
theorem de_B_read_83 : decode cd_B_read 83 = .ok (.lconst 1, 1) := by decide +kernel
theorem de_B_read_84 : decode cd_B_read 84 = .ok (.invokevirtual 25, 3) := by decide +kernel
theorem de_B_read_87 : decode cd_B_read 87 = .ok (.goto 70, 3) := by decide +kernel
theorem de_B_read_90 : decode cd_B_read 90 = .ok (.aload_n 0, 1) := by decide +kernel
theorem de_B_read_91 : decode cd_B_read 91 = .ok (.getfield 9, 3) := by decide +kernel
theorem de_B_read_94 : decode cd_B_read 94 = .ok (.iload 5, 2) := by decide +kernel
theorem de_B_read_96 : decode cd_B_read 96 = .ok (.laload, 1) := by decide +kernel
theorem de_B_read_97 : decode cd_B_read 97 = .ok (.aload_n 0, 1) := by decide +kernel
theorem de_B_read_98 : decode cd_B_read 98 = .ok (.getfield 9, 3) := by decide +kernel
theorem de_B_read_101 : decode cd_B_read 101 = .ok (.iload 5, 2) := by decide +kernel
theorem de_B_read_103 : decode cd_B_read 103 = .ok (.iconst 1, 1) := by decide +kernel
theorem de_B_read_104 : decode cd_B_read 104 = .ok (.isub, 1) := by decide +kernel
theorem de_B_read_105 : decode cd_B_read 105 = .ok (.laload, 1) := by decide +kernel
theorem de_B_read_106 : decode cd_B_read 106 = .ok (.lsub, 1) := by decide +kernel
theorem de_B_read_107 : decode cd_B_read 107 = .ok (.lstore 6, 2) := by decide +kernel
theorem de_B_read_109 : decode cd_B_read 109 = .ok (.lload_n 2, 1) := by decide +kernel
theorem de_B_read_110 : decode cd_B_read 110 = .ok (.aload_n 0, 1) := by decide +kernel
theorem de_B_read_111 : decode cd_B_read 111 = .ok (.getfield 9, 3) := by decide +kernel
theorem de_B_read_114 : decode cd_B_read 114 = .ok (.iload 5, 2) := by decide +kernel
theorem de_B_read_116 : decode cd_B_read 116 = .ok (.iconst 1, 1) := by decide +kernel
theorem de_B_read_117 : decode cd_B_read 117 = .ok (.isub, 1) := by decide +kernel
theorem de_B_read_118 : decode cd_B_read 118 = .ok (.laload, 1) := by decide +kernel
theorem de_B_read_119 : decode cd_B_read 119 = .ok (.lsub, 1) := by decide +kernel
theorem de_B_read_120 : decode cd_B_read 120 = .ok (.lstore 8, 2) := by decide +kernel
theorem de_B_read_122 : decode cd_B_read 122 = .ok (.aload_n 1, 1) := by decide +kernel
theorem de_B_read_123 : decode cd_B_read 123 = .ok (.iload 5, 2) := by decide +kernel
theorem de_B_read_125 : decode cd_B_read 125 = .ok (.laload, 1) := by decide +kernel
theorem de_B_read_126 : decode cd_B_read 126 = .ok (.aload_n 1, 1) := by decide +kernel
theorem de_B_read_127 : decode cd_B_read 127 = .ok (.iload 5, 2) := by decide +kernel
theorem de_B_read_129 : decode cd_B_read 129 = .ok (.iconst 1, 1) := by decide +kernel
theorem de_B_read_130 : decode cd_B_read 130 = .ok (.isub, 1) := by decide +kernel
theorem de_B_read_131 : decode cd_B_read 131 = .ok (.laload, 1) := by decide +kernel
theorem de_B_read_132 : decode cd_B_read 132 = .ok (.lsub, 1) := by decide +kernel
theorem de_B_read_133 : decode cd_B_read 133 = .ok (.lstore 10, 2) := by decide +kernel
theorem de_B_read_135 : decode cd_B_read 135 = .ok (.aload 4, 2) := by decide +kernel
theorem de_B_read_137 : decode cd_B_read 137 = .ok (.aload_n 1, 1) := by decide +kernel
theorem de_B_read_138 : decode cd_B_read 138 = .ok (.iload 5, 2) := by decide +kernel
theorem de_B_read_140 : decode cd_B_read 140 = .ok (.iconst 1, 1) := by decide +kernel
theorem de_B_read_141 : decode cd_B_read 141 = .ok (.isub, 1) := by decide +kernel
theorem de_B_read_142 : decode cd_B_read 142 = .ok (.laload, 1) := by decide +kernel
theorem de_B_read_143 : decode cd_B_read 143 = .ok (.lload 6, 2) := by decide +kernel
theorem de_B_read_145 : decode cd_B_read 145 = .ok (.lmul, 1) := by decide +kernel
theorem de_B_read_146 : decode cd_B_read 146 = .ok (.lload 10, 2) := by decide +kernel
theorem de_B_read_148 : decode cd_B_read 148 = .ok (.lload 8, 2) := by decide +kernel
theorem de_B_read_150 : decode cd_B_read 150 = .ok (.lmul, 1) := by decide +kernel
theorem de_B_read_151 : decode cd_B_read 151 = .ok (.ladd, 1) := by decide +kernel
theorem de_B_read_152 : decode cd_B_read 152 = .ok (.lload 6, 2) := by decide +kernel
theorem de_B_read_154 : decode cd_B_read 154 = .ok (.invokevirtual 25, 3) := by decide +kernel
theorem de_B_read_157 : decode cd_B_read 157 = .ok (.return_, 1) := by decide +kernel
abbrev cd_F_floor : ByteArray := prog_3_method_3_code
abbrev yn_F_floor : MethodName := ⟨"StabilitySums$Fraction", "floor", "()J"⟩
theorem de_F_floor_0 : decode cd_F_floor 0 = .ok (.aload_n 0, 1) := by decide +kernel
theorem de_F_floor_1 : decode cd_F_floor 1 = .ok (.getfield 7, 3) := by decide +kernel
theorem de_F_floor_4 : decode cd_F_floor 4 = .ok (.aload_n 0, 1) := by decide +kernel
theorem de_F_floor_5 : decode cd_F_floor 5 = .ok (.getfield 13, 3) := by decide +kernel
theorem de_F_floor_8 : decode cd_F_floor 8 = .ok (.invokestatic 16, 3) := by decide +kernel
theorem de_F_floor_11 : decode cd_F_floor 11 = .ok (.lreturn, 1) := by decide +kernel
abbrev cd_F_ceiling : ByteArray := prog_3_method_4_code
abbrev yn_F_ceiling : MethodName := ⟨"StabilitySums$Fraction", "ceiling", "()J"⟩
theorem de_F_ceiling_0 : decode cd_F_ceiling 0 = .ok (.aload_n 0, 1) := by decide +kernel
theorem de_F_ceiling_1 : decode cd_F_ceiling 1 = .ok (.getfield 7, 3) := by decide +kernel
theorem de_F_ceiling_4 : decode cd_F_ceiling 4 = .ok (.lneg, 1) := by decide +kernel
theorem de_F_ceiling_5 : decode cd_F_ceiling 5 = .ok (.aload_n 0, 1) := by decide +kernel
theorem de_F_ceiling_6 : decode cd_F_ceiling 6 = .ok (.getfield 13, 3) := by decide +kernel
theorem de_F_ceiling_9 : decode cd_F_ceiling 9 = .ok (.invokestatic 16, 3) := by decide +kernel
theorem de_F_ceiling_12 : decode cd_F_ceiling 12 = .ok (.lneg, 1) := by decide +kernel
theorem de_F_ceiling_13 : decode cd_F_ceiling 13 = .ok (.lreturn, 1) := by decide +kernel
abbrev cd_S_ballast : ByteArray := prog_1_method_12_code
abbrev yn_S_ballast : MethodName := ⟨"StabilitySums", "ballast", "()J"⟩
theorem de_S_ballast_0 : decode cd_S_ballast 0 = .ok (.aload_n 0, 1) := by decide +kernel
theorem de_S_ballast_1 : decode cd_S_ballast 1 = .ok (.invokevirtual 213, 3) := by decide +kernel
theorem de_S_ballast_4 : decode cd_S_ballast 4 = .ok (.lreturn, 1) := by decide +kernel
abbrev cd_S_findPumping : ByteArray := prog_1_method_32_code
abbrev yn_S_findPumping : MethodName := ⟨"StabilitySums", "findPumping", "()J"⟩
theorem de_S_findPumping_0 : decode cd_S_findPumping 0 = .ok (.iconst 1, 1) := by decide +kernel
theorem de_S_findPumping_1 : decode cd_S_findPumping 1 = .ok (.istore_n 1, 1) := by decide +kernel
theorem de_S_findPumping_2 : decode cd_S_findPumping 2 = .ok (.iconst 0, 1) := by decide +kernel
theorem de_S_findPumping_3 : decode cd_S_findPumping 3 = .ok (.istore_n 2, 1) := by decide +kernel
theorem de_S_findPumping_4 : decode cd_S_findPumping 4 = .ok (.iload_n 2, 1) := by decide +kernel
theorem de_S_findPumping_5 : decode cd_S_findPumping 5 = .ok (.aload_n 0, 1) := by decide +kernel
theorem de_S_findPumping_6 : decode cd_S_findPumping 6 = .ok (.getfield 19, 3) := by decide +kernel
theorem de_S_findPumping_9 : decode cd_S_findPumping 9 = .ok (.getfield 113, 3) := by decide +kernel
theorem de_S_findPumping_12 : decode cd_S_findPumping 12 = .ok (.if_icmp .ge 13, 3) := by decide +kernel
theorem de_S_findPumping_15 : decode cd_S_findPumping 15 = .ok (.iload_n 1, 1) := by decide +kernel
theorem de_S_findPumping_16 : decode cd_S_findPumping 16 = .ok (.iconst 5, 1) := by decide +kernel
theorem de_S_findPumping_17 : decode cd_S_findPumping 17 = .ok (.imul, 1) := by decide +kernel
theorem de_S_findPumping_18 : decode cd_S_findPumping 18 = .ok (.istore_n 1, 1) := by decide +kernel
theorem de_S_findPumping_19 : decode cd_S_findPumping 19 = .ok (.iinc 2 1, 3) := by decide +kernel
theorem de_S_findPumping_22 : decode cd_S_findPumping 22 = .ok (.goto (-18), 3) := by decide +kernel
theorem de_S_findPumping_25 : decode cd_S_findPumping 25 = .ok (.aload_n 0, 1) := by decide +kernel
theorem de_S_findPumping_26 : decode cd_S_findPumping 26 = .ok (.invokevirtual 155, 3) := by decide +kernel
theorem de_S_findPumping_29 : decode cd_S_findPumping 29 = .ok (.ldc2_w 216, 3) := by decide +kernel
theorem de_S_findPumping_32 : decode cd_S_findPumping 32 = .ok (.lstore_n 2, 1) := by decide +kernel
theorem de_S_findPumping_33 : decode cd_S_findPumping 33 = .ok (.iconst 0, 1) := by decide +kernel
theorem de_S_findPumping_34 : decode cd_S_findPumping 34 = .ok (.istore 4, 2) := by decide +kernel
theorem de_S_findPumping_36 : decode cd_S_findPumping 36 = .ok (.iload 4, 2) := by decide +kernel
theorem de_S_findPumping_38 : decode cd_S_findPumping 38 = .ok (.iload_n 1, 1) := by decide +kernel
theorem de_S_findPumping_39 : decode cd_S_findPumping 39 = .ok (.if_icmp .ge 56, 3) := by decide +kernel
theorem de_S_findPumping_42 : decode cd_S_findPumping 42 = .ok (.aload_n 0, 1) := by decide +kernel
theorem de_S_findPumping_43 : decode cd_S_findPumping 43 = .ok (.iload 4, 2) := by decide +kernel
theorem de_S_findPumping_45 : decode cd_S_findPumping 45 = .ok (.invokevirtual 342, 3) := by decide +kernel
theorem de_S_findPumping_48 : decode cd_S_findPumping 48 = .ok (.aload_n 0, 1) := by decide +kernel
theorem de_S_findPumping_49 : decode cd_S_findPumping 49 = .ok (.getfield 19, 3) := by decide +kernel
theorem de_S_findPumping_52 : decode cd_S_findPumping 52 = .ok (.invokevirtual 345, 3) := by decide +kernel
theorem de_S_findPumping_55 : decode cd_S_findPumping 55 = .ok (.lstore 5, 2) := by decide +kernel
theorem de_S_findPumping_57 : decode cd_S_findPumping 57 = .ok (.lload_n 2, 1) := by decide +kernel
theorem de_S_findPumping_58 : decode cd_S_findPumping 58 = .ok (.ldc2_w 216, 3) := by decide +kernel
theorem de_S_findPumping_61 : decode cd_S_findPumping 61 = .ok (.lcmp, 1) := by decide +kernel
theorem de_S_findPumping_62 : decode cd_S_findPumping 62 = .ok (.ifCond .eq 10, 3) := by decide +kernel
theorem de_S_findPumping_65 : decode cd_S_findPumping 65 = .ok (.lload 5, 2) := by decide +kernel
theorem de_S_findPumping_67 : decode cd_S_findPumping 67 = .ok (.lload_n 2, 1) := by decide +kernel
theorem de_S_findPumping_68 : decode cd_S_findPumping 68 = .ok (.lcmp, 1) := by decide +kernel
theorem de_S_findPumping_69 : decode cd_S_findPumping 69 = .ok (.ifCond .ge 20, 3) := by decide +kernel
theorem de_S_findPumping_72 : decode cd_S_findPumping 72 = .ok (.aload_n 0, 1) := by decide +kernel
theorem de_S_findPumping_73 : decode cd_S_findPumping 73 = .ok (.invokevirtual 209, 3) := by decide +kernel
theorem de_S_findPumping_76 : decode cd_S_findPumping 76 = .ok (.ifCond .ne 13, 3) := by decide +kernel
theorem de_S_findPumping_79 : decode cd_S_findPumping 79 = .ok (.lload 5, 2) := by decide +kernel
theorem de_S_findPumping_81 : decode cd_S_findPumping 81 = .ok (.lstore_n 2, 1) := by decide +kernel
theorem de_S_findPumping_82 : decode cd_S_findPumping 82 = .ok (.aload_n 0, 1) := by decide +kernel
theorem de_S_findPumping_83 : decode cd_S_findPumping 83 = .ok (.getfield 19, 3) := by decide +kernel
theorem de_S_findPumping_86 : decode cd_S_findPumping 86 = .ok (.invokevirtual 348, 3) := by decide +kernel
theorem de_S_findPumping_89 : decode cd_S_findPumping 89 = .ok (.iinc 4 1, 3) := by decide +kernel
theorem de_S_findPumping_92 : decode cd_S_findPumping 92 = .ok (.goto (-56), 3) := by decide +kernel
theorem de_S_findPumping_95 : decode cd_S_findPumping 95 = .ok (.lload_n 2, 1) := by decide +kernel
theorem de_S_findPumping_96 : decode cd_S_findPumping 96 = .ok (.lreturn, 1) := by decide +kernel
abbrev cd_S_trySetting : ByteArray := prog_1_method_33_code
abbrev yn_S_trySetting : MethodName := ⟨"StabilitySums", "trySetting", "(I)V"⟩
theorem de_S_trySetting_0 : decode cd_S_trySetting 0 = .ok (.iload_n 1, 1) := by decide +kernel
theorem de_S_trySetting_1 : decode cd_S_trySetting 1 = .ok (.istore_n 2, 1) := by decide +kernel
theorem de_S_trySetting_2 : decode cd_S_trySetting 2 = .ok (.aload_n 0, 1) := by decide +kernel
theorem de_S_trySetting_3 : decode cd_S_trySetting 3 = .ok (.getfield 19, 3) := by decide +kernel
theorem de_S_trySetting_6 : decode cd_S_trySetting 6 = .ok (.getfield 113, 3) := by decide +kernel
theorem de_S_trySetting_9 : decode cd_S_trySetting 9 = .ok (.iconst 1, 1) := by decide +kernel
theorem de_S_trySetting_10 : decode cd_S_trySetting 10 = .ok (.isub, 1) := by decide +kernel
theorem de_S_trySetting_11 : decode cd_S_trySetting 11 = .ok (.istore_n 3, 1) := by decide +kernel
theorem de_S_trySetting_12 : decode cd_S_trySetting 12 = .ok (.iload_n 3, 1) := by decide +kernel
theorem de_S_trySetting_13 : decode cd_S_trySetting 13 = .ok (.ifCond .lt 36, 3) := by decide +kernel
theorem de_S_trySetting_16 : decode cd_S_trySetting 16 = .ok (.aload_n 0, 1) := by decide +kernel
theorem de_S_trySetting_17 : decode cd_S_trySetting 17 = .ok (.iload_n 3, 1) := by decide +kernel
theorem de_S_trySetting_18 : decode cd_S_trySetting 18 = .ok (.aload_n 0, 1) := by decide +kernel
theorem de_S_trySetting_19 : decode cd_S_trySetting 19 = .ok (.getfield 19, 3) := by decide +kernel
theorem de_S_trySetting_22 : decode cd_S_trySetting 22 = .ok (.getfield 124, 3) := by decide +kernel
theorem de_S_trySetting_25 : decode cd_S_trySetting 25 = .ok (.iload_n 3, 1) := by decide +kernel
theorem de_S_trySetting_26 : decode cd_S_trySetting 26 = .ok (.laload, 1) := by decide +kernel
theorem de_S_trySetting_27 : decode cd_S_trySetting 27 = .ok (.ldc2_w 105, 3) := by decide +kernel
theorem de_S_trySetting_30 : decode cd_S_trySetting 30 = .ok (.ldiv, 1) := by decide +kernel
theorem de_S_trySetting_31 : decode cd_S_trySetting 31 = .ok (.iload_n 2, 1) := by decide +kernel
theorem de_S_trySetting_32 : decode cd_S_trySetting 32 = .ok (.iconst 5, 1) := by decide +kernel
theorem de_S_trySetting_33 : decode cd_S_trySetting 33 = .ok (.irem, 1) := by decide +kernel
theorem de_S_trySetting_34 : decode cd_S_trySetting 34 = .ok (.i2l, 1) := by decide +kernel
theorem de_S_trySetting_35 : decode cd_S_trySetting 35 = .ok (.lmul, 1) := by decide +kernel
theorem de_S_trySetting_36 : decode cd_S_trySetting 36 = .ok (.invokevirtual 262, 3) := by decide +kernel
theorem de_S_trySetting_39 : decode cd_S_trySetting 39 = .ok (.iload_n 2, 1) := by decide +kernel
theorem de_S_trySetting_40 : decode cd_S_trySetting 40 = .ok (.iconst 5, 1) := by decide +kernel
theorem de_S_trySetting_41 : decode cd_S_trySetting 41 = .ok (.idiv, 1) := by decide +kernel
theorem de_S_trySetting_42 : decode cd_S_trySetting 42 = .ok (.istore_n 2, 1) := by decide +kernel
theorem de_S_trySetting_43 : decode cd_S_trySetting 43 = .ok (.iinc 3 (-1), 3) := by decide +kernel
theorem de_S_trySetting_46 : decode cd_S_trySetting 46 = .ok (.goto (-34), 3) := by decide +kernel
theorem de_S_trySetting_49 : decode cd_S_trySetting 49 = .ok (.return_, 1) := by decide +kernel
abbrev cd_T_workOfTried : ByteArray := prog_8_method_6_code
abbrev yn_T_workOfTried : MethodName := ⟨"StabilitySums$Tanks", "workOfTried", "()J"⟩
theorem de_T_workOfTried_0 : decode cd_T_workOfTried 0 = .ok (.lconst 0, 1) := by decide +kernel
theorem de_T_workOfTried_1 : decode cd_T_workOfTried 1 = .ok (.lstore_n 1, 1) := by decide +kernel
theorem de_T_workOfTried_2 : decode cd_T_workOfTried 2 = .ok (.iconst 0, 1) := by decide +kernel
theorem de_T_workOfTried_3 : decode cd_T_workOfTried 3 = .ok (.istore_n 3, 1) := by decide +kernel
theorem de_T_workOfTried_4 : decode cd_T_workOfTried 4 = .ok (.iload_n 3, 1) := by decide +kernel
theorem de_T_workOfTried_5 : decode cd_T_workOfTried 5 = .ok (.aload_n 0, 1) := by decide +kernel
theorem de_T_workOfTried_6 : decode cd_T_workOfTried 6 = .ok (.getfield 36, 3) := by decide +kernel
theorem de_T_workOfTried_9 : decode cd_T_workOfTried 9 = .ok (.if_icmp .ge 28, 3) := by decide +kernel
theorem de_T_workOfTried_12 : decode cd_T_workOfTried 12 = .ok (.lload_n 1, 1) := by decide +kernel
theorem de_T_workOfTried_13 : decode cd_T_workOfTried 13 = .ok (.aload_n 0, 1) := by decide +kernel
theorem de_T_workOfTried_14 : decode cd_T_workOfTried 14 = .ok (.getfield 30, 3) := by decide +kernel
theorem de_T_workOfTried_17 : decode cd_T_workOfTried 17 = .ok (.iload_n 3, 1) := by decide +kernel
theorem de_T_workOfTried_18 : decode cd_T_workOfTried 18 = .ok (.laload, 1) := by decide +kernel
theorem de_T_workOfTried_19 : decode cd_T_workOfTried 19 = .ok (.aload_n 0, 1) := by decide +kernel
theorem de_T_workOfTried_20 : decode cd_T_workOfTried 20 = .ok (.getfield 27, 3) := by decide +kernel
theorem de_T_workOfTried_23 : decode cd_T_workOfTried 23 = .ok (.iload_n 3, 1) := by decide +kernel
theorem de_T_workOfTried_24 : decode cd_T_workOfTried 24 = .ok (.laload, 1) := by decide +kernel
theorem de_T_workOfTried_25 : decode cd_T_workOfTried 25 = .ok (.lsub, 1) := by decide +kernel
theorem de_T_workOfTried_26 : decode cd_T_workOfTried 26 = .ok (.invokestatic 44, 3) := by decide +kernel
theorem de_T_workOfTried_29 : decode cd_T_workOfTried 29 = .ok (.ladd, 1) := by decide +kernel
theorem de_T_workOfTried_30 : decode cd_T_workOfTried 30 = .ok (.lstore_n 1, 1) := by decide +kernel
theorem de_T_workOfTried_31 : decode cd_T_workOfTried 31 = .ok (.iinc 3 1, 3) := by decide +kernel
theorem de_T_workOfTried_34 : decode cd_T_workOfTried 34 = .ok (.goto (-30), 3) := by decide +kernel
theorem de_T_workOfTried_37 : decode cd_T_workOfTried 37 = .ok (.lload_n 1, 1) := by decide +kernel
theorem de_T_workOfTried_38 : decode cd_T_workOfTried 38 = .ok (.lreturn, 1) := by decide +kernel
abbrev cd_J_abs : ByteArray := prog_17_method_61_code
abbrev yn_J_abs : MethodName := ⟨"java/lang/Math", "abs", "(J)J"⟩
theorem de_J_abs_0 : decode cd_J_abs 0 = .ok (.lload_n 0, 1) := by decide +kernel
theorem de_J_abs_1 : decode cd_J_abs 1 = .ok (.lconst 0, 1) := by decide +kernel
theorem de_J_abs_2 : decode cd_J_abs 2 = .ok (.lcmp, 1) := by decide +kernel
theorem de_J_abs_3 : decode cd_J_abs 3 = .ok (.ifCond .ge 8, 3) := by decide +kernel
theorem de_J_abs_6 : decode cd_J_abs 6 = .ok (.lload_n 0, 1) := by decide +kernel
theorem de_J_abs_7 : decode cd_J_abs 7 = .ok (.lneg, 1) := by decide +kernel
theorem de_J_abs_8 : decode cd_J_abs 8 = .ok (.goto 4, 3) := by decide +kernel
theorem de_J_abs_11 : decode cd_J_abs 11 = .ok (.lload_n 0, 1) := by decide +kernel
theorem de_J_abs_12 : decode cd_J_abs 12 = .ok (.lreturn, 1) := by decide +kernel
abbrev cd_T_keepTried : ByteArray := prog_8_method_7_code
abbrev yn_T_keepTried : MethodName := ⟨"StabilitySums$Tanks", "keepTried", "()V"⟩
theorem de_T_keepTried_0 : decode cd_T_keepTried 0 = .ok (.iconst 0, 1) := by decide +kernel
theorem de_T_keepTried_1 : decode cd_T_keepTried 1 = .ok (.istore_n 1, 1) := by decide +kernel
theorem de_T_keepTried_2 : decode cd_T_keepTried 2 = .ok (.iload_n 1, 1) := by decide +kernel
theorem de_T_keepTried_3 : decode cd_T_keepTried 3 = .ok (.aload_n 0, 1) := by decide +kernel
theorem de_T_keepTried_4 : decode cd_T_keepTried 4 = .ok (.getfield 36, 3) := by decide +kernel
theorem de_T_keepTried_7 : decode cd_T_keepTried 7 = .ok (.if_icmp .ge 21, 3) := by decide +kernel
theorem de_T_keepTried_10 : decode cd_T_keepTried 10 = .ok (.aload_n 0, 1) := by decide +kernel
theorem de_T_keepTried_11 : decode cd_T_keepTried 11 = .ok (.getfield 33, 3) := by decide +kernel
theorem de_T_keepTried_14 : decode cd_T_keepTried 14 = .ok (.iload_n 1, 1) := by decide +kernel
theorem de_T_keepTried_15 : decode cd_T_keepTried 15 = .ok (.aload_n 0, 1) := by decide +kernel
theorem de_T_keepTried_16 : decode cd_T_keepTried 16 = .ok (.getfield 30, 3) := by decide +kernel
theorem de_T_keepTried_19 : decode cd_T_keepTried 19 = .ok (.iload_n 1, 1) := by decide +kernel
theorem de_T_keepTried_20 : decode cd_T_keepTried 20 = .ok (.laload, 1) := by decide +kernel
theorem de_T_keepTried_21 : decode cd_T_keepTried 21 = .ok (.lastore, 1) := by decide +kernel
theorem de_T_keepTried_22 : decode cd_T_keepTried 22 = .ok (.iinc 1 1, 3) := by decide +kernel
theorem de_T_keepTried_25 : decode cd_T_keepTried 25 = .ok (.goto (-23), 3) := by decide +kernel
theorem de_T_keepTried_28 : decode cd_T_keepTried 28 = .ok (.return_, 1) := by decide +kernel
abbrev cd_S_broken : ByteArray := prog_1_method_16_code
abbrev yn_S_broken : MethodName := ⟨"StabilitySums", "broken", "()I"⟩
theorem de_S_broken_0 : decode cd_S_broken 0 = .ok (.aload_n 0, 1) := by decide +kernel
theorem de_S_broken_1 : decode cd_S_broken 1 = .ok (.invokevirtual 155, 3) := by decide +kernel
theorem de_S_broken_4 : decode cd_S_broken 4 = .ok (.iconst 0, 1) := by decide +kernel
theorem de_S_broken_5 : decode cd_S_broken 5 = .ok (.istore_n 1, 1) := by decide +kernel
theorem de_S_broken_6 : decode cd_S_broken 6 = .ok (.iload_n 1, 1) := by decide +kernel
theorem de_S_broken_7 : decode cd_S_broken 7 = .ok (.aload_n 0, 1) := by decide +kernel
theorem de_S_broken_8 : decode cd_S_broken 8 = .ok (.getfield 40, 3) := by decide +kernel
theorem de_S_broken_11 : decode cd_S_broken 11 = .ok (.getfield 225, 3) := by decide +kernel
theorem de_S_broken_14 : decode cd_S_broken 14 = .ok (.if_icmp .ge 23, 3) := by decide +kernel
theorem de_S_broken_17 : decode cd_S_broken 17 = .ok (.aload_n 0, 1) := by decide +kernel
theorem de_S_broken_18 : decode cd_S_broken 18 = .ok (.iload_n 1, 1) := by decide +kernel
theorem de_S_broken_19 : decode cd_S_broken 19 = .ok (.invokevirtual 233, 3) := by decide +kernel
theorem de_S_broken_22 : decode cd_S_broken 22 = .ok (.aload_n 0, 1) := by decide +kernel
theorem de_S_broken_23 : decode cd_S_broken 23 = .ok (.invokevirtual 209, 3) := by decide +kernel
theorem de_S_broken_26 : decode cd_S_broken 26 = .ok (.ifCond .eq 5, 3) := by decide +kernel
theorem de_S_broken_29 : decode cd_S_broken 29 = .ok (.iload_n 1, 1) := by decide +kernel
theorem de_S_broken_30 : decode cd_S_broken 30 = .ok (.ireturn, 1) := by decide +kernel
theorem de_S_broken_31 : decode cd_S_broken 31 = .ok (.iinc 1 1, 3) := by decide +kernel
theorem de_S_broken_34 : decode cd_S_broken 34 = .ok (.goto (-28), 3) := by decide +kernel
theorem de_S_broken_37 : decode cd_S_broken 37 = .ok (.iconst (-1), 1) := by decide +kernel
theorem de_S_broken_38 : decode cd_S_broken 38 = .ok (.ireturn, 1) := by decide +kernel
abbrev cd_S_tryStep : ByteArray := prog_1_method_25_code
abbrev yn_S_tryStep : MethodName := ⟨"StabilitySums", "tryStep", "(I)V"⟩
theorem de_S_tryStep_0 : decode cd_S_tryStep 0 = .ok (.aload_n 0, 1) := by decide +kernel
theorem de_S_tryStep_1 : decode cd_S_tryStep 1 = .ok (.getfield 40, 3) := by decide +kernel
theorem de_S_tryStep_4 : decode cd_S_tryStep 4 = .ok (.getfield 291, 3) := by decide +kernel
theorem de_S_tryStep_7 : decode cd_S_tryStep 7 = .ok (.iload_n 1, 1) := by decide +kernel
theorem de_S_tryStep_8 : decode cd_S_tryStep 8 = .ok (.baload, 1) := by decide +kernel
theorem de_S_tryStep_9 : decode cd_S_tryStep 9 = .ok (.ifCond .eq 28, 3) := by decide +kernel
theorem de_S_tryStep_12 : decode cd_S_tryStep 12 = .ok (.aload_n 0, 1) := by decide +kernel
theorem de_S_tryStep_13 : decode cd_S_tryStep 13 = .ok (.aload_n 0, 1) := by decide +kernel
theorem de_S_tryStep_14 : decode cd_S_tryStep 14 = .ok (.getfield 40, 3) := by decide +kernel
theorem de_S_tryStep_17 : decode cd_S_tryStep 17 = .ok (.getfield 295, 3) := by decide +kernel
theorem de_S_tryStep_20 : decode cd_S_tryStep 20 = .ok (.iload_n 1, 1) := by decide +kernel
theorem de_S_tryStep_21 : decode cd_S_tryStep 21 = .ok (.iaload, 1) := by decide +kernel
theorem de_S_tryStep_22 : decode cd_S_tryStep 22 = .ok (.aload_n 0, 1) := by decide +kernel
theorem de_S_tryStep_23 : decode cd_S_tryStep 23 = .ok (.getfield 40, 3) := by decide +kernel
theorem de_S_tryStep_26 : decode cd_S_tryStep 26 = .ok (.getfield 299, 3) := by decide +kernel
theorem de_S_tryStep_29 : decode cd_S_tryStep 29 = .ok (.iload_n 1, 1) := by decide +kernel
theorem de_S_tryStep_30 : decode cd_S_tryStep 30 = .ok (.laload, 1) := by decide +kernel
theorem de_S_tryStep_31 : decode cd_S_tryStep 31 = .ok (.invokevirtual 262, 3) := by decide +kernel
theorem de_S_tryStep_34 : decode cd_S_tryStep 34 = .ok (.goto 25, 3) := by decide +kernel
theorem de_S_tryStep_37 : decode cd_S_tryStep 37 = .ok (.aload_n 0, 1) := by decide +kernel
theorem de_S_tryStep_38 : decode cd_S_tryStep 38 = .ok (.aload_n 0, 1) := by decide +kernel
theorem de_S_tryStep_39 : decode cd_S_tryStep 39 = .ok (.getfield 40, 3) := by decide +kernel
theorem de_S_tryStep_42 : decode cd_S_tryStep 42 = .ok (.getfield 295, 3) := by decide +kernel
theorem de_S_tryStep_45 : decode cd_S_tryStep 45 = .ok (.iload_n 1, 1) := by decide +kernel
theorem de_S_tryStep_46 : decode cd_S_tryStep 46 = .ok (.iaload, 1) := by decide +kernel
theorem de_S_tryStep_47 : decode cd_S_tryStep 47 = .ok (.aload_n 0, 1) := by decide +kernel
theorem de_S_tryStep_48 : decode cd_S_tryStep 48 = .ok (.getfield 40, 3) := by decide +kernel
theorem de_S_tryStep_51 : decode cd_S_tryStep 51 = .ok (.getfield 299, 3) := by decide +kernel
theorem de_S_tryStep_54 : decode cd_S_tryStep 54 = .ok (.iload_n 1, 1) := by decide +kernel
theorem de_S_tryStep_55 : decode cd_S_tryStep 55 = .ok (.laload, 1) := by decide +kernel
theorem de_S_tryStep_56 : decode cd_S_tryStep 56 = .ok (.invokevirtual 255, 3) := by decide +kernel
theorem de_S_tryStep_59 : decode cd_S_tryStep 59 = .ok (.return_, 1) := by decide +kernel
abbrev cd_S_count : ByteArray := prog_1_method_17_code
abbrev yn_S_count : MethodName := ⟨"StabilitySums", "count", "(I)I"⟩
theorem de_S_count_0 : decode cd_S_count 0 = .ok (.iload_n 1, 1) := by decide +kernel
theorem de_S_count_1 : decode cd_S_count 1 = .ok (.tableswitch 87 0 5 #[39, 47, 55, 63, 71, 79], 39) := by decide +kernel
theorem de_S_count_40 : decode cd_S_count 40 = .ok (.aload_n 0, 1) := by decide +kernel
theorem de_S_count_41 : decode cd_S_count 41 = .ok (.getfield 10, 3) := by decide +kernel
theorem de_S_count_44 : decode cd_S_count 44 = .ok (.getfield 92, 3) := by decide +kernel
theorem de_S_count_47 : decode cd_S_count 47 = .ok (.ireturn, 1) := by decide +kernel
theorem de_S_count_48 : decode cd_S_count 48 = .ok (.aload_n 0, 1) := by decide +kernel
theorem de_S_count_49 : decode cd_S_count 49 = .ok (.getfield 19, 3) := by decide +kernel
theorem de_S_count_52 : decode cd_S_count 52 = .ok (.getfield 113, 3) := by decide +kernel
theorem de_S_count_55 : decode cd_S_count 55 = .ok (.ireturn, 1) := by decide +kernel
theorem de_S_count_56 : decode cd_S_count 56 = .ok (.aload_n 0, 1) := by decide +kernel
theorem de_S_count_57 : decode cd_S_count 57 = .ok (.getfield 26, 3) := by decide +kernel
theorem de_S_count_60 : decode cd_S_count 60 = .ok (.getfield 143, 3) := by decide +kernel
theorem de_S_count_63 : decode cd_S_count 63 = .ok (.ireturn, 1) := by decide +kernel
theorem de_S_count_64 : decode cd_S_count 64 = .ok (.aload_n 0, 1) := by decide +kernel
theorem de_S_count_65 : decode cd_S_count 65 = .ok (.getfield 33, 3) := by decide +kernel
theorem de_S_count_68 : decode cd_S_count 68 = .ok (.getfield 203, 3) := by decide +kernel
theorem de_S_count_71 : decode cd_S_count 71 = .ok (.ireturn, 1) := by decide +kernel
theorem de_S_count_72 : decode cd_S_count 72 = .ok (.aload_n 0, 1) := by decide +kernel
theorem de_S_count_73 : decode cd_S_count 73 = .ok (.getfield 40, 3) := by decide +kernel
theorem de_S_count_76 : decode cd_S_count 76 = .ok (.getfield 225, 3) := by decide +kernel
theorem de_S_count_79 : decode cd_S_count 79 = .ok (.ireturn, 1) := by decide +kernel
theorem de_S_count_80 : decode cd_S_count 80 = .ok (.aload_n 0, 1) := by decide +kernel
theorem de_S_count_81 : decode cd_S_count 81 = .ok (.getfield 19, 3) := by decide +kernel
theorem de_S_count_84 : decode cd_S_count 84 = .ok (.invokevirtual 236, 3) := by decide +kernel
theorem de_S_count_87 : decode cd_S_count 87 = .ok (.ireturn, 1) := by decide +kernel
theorem de_S_count_88 : decode cd_S_count 88 = .ok (.iconst (-1), 1) := by decide +kernel
theorem de_S_count_89 : decode cd_S_count 89 = .ok (.ireturn, 1) := by decide +kernel
abbrev cd_T_countSlack : ByteArray := prog_8_method_5_code
abbrev yn_T_countSlack : MethodName := ⟨"StabilitySums$Tanks", "countSlack", "()I"⟩
theorem de_T_countSlack_0 : decode cd_T_countSlack 0 = .ok (.iconst 0, 1) := by decide +kernel
theorem de_T_countSlack_1 : decode cd_T_countSlack 1 = .ok (.istore_n 1, 1) := by decide +kernel
theorem de_T_countSlack_2 : decode cd_T_countSlack 2 = .ok (.iconst 0, 1) := by decide +kernel
theorem de_T_countSlack_3 : decode cd_T_countSlack 3 = .ok (.istore_n 2, 1) := by decide +kernel
theorem de_T_countSlack_4 : decode cd_T_countSlack 4 = .ok (.iload_n 2, 1) := by decide +kernel
theorem de_T_countSlack_5 : decode cd_T_countSlack 5 = .ok (.aload_n 0, 1) := by decide +kernel
theorem de_T_countSlack_6 : decode cd_T_countSlack 6 = .ok (.getfield 36, 3) := by decide +kernel
theorem de_T_countSlack_9 : decode cd_T_countSlack 9 = .ok (.if_icmp .ge 26, 3) := by decide +kernel
theorem de_T_countSlack_12 : decode cd_T_countSlack 12 = .ok (.aload_n 0, 1) := by decide +kernel
theorem de_T_countSlack_13 : decode cd_T_countSlack 13 = .ok (.iload_n 2, 1) := by decide +kernel
theorem de_T_countSlack_14 : decode cd_T_countSlack 14 = .ok (.aload_n 0, 1) := by decide +kernel
theorem de_T_countSlack_15 : decode cd_T_countSlack 15 = .ok (.getfield 27, 3) := by decide +kernel
theorem de_T_countSlack_18 : decode cd_T_countSlack 18 = .ok (.iload_n 2, 1) := by decide +kernel
theorem de_T_countSlack_19 : decode cd_T_countSlack 19 = .ok (.laload, 1) := by decide +kernel
theorem de_T_countSlack_20 : decode cd_T_countSlack 20 = .ok (.invokevirtual 40, 3) := by decide +kernel
theorem de_T_countSlack_23 : decode cd_T_countSlack 23 = .ok (.ifCond .eq 6, 3) := by decide +kernel
theorem de_T_countSlack_26 : decode cd_T_countSlack 26 = .ok (.iinc 1 1, 3) := by decide +kernel
theorem de_T_countSlack_29 : decode cd_T_countSlack 29 = .ok (.iinc 2 1, 3) := by decide +kernel
theorem de_T_countSlack_32 : decode cd_T_countSlack 32 = .ok (.goto (-28), 3) := by decide +kernel
theorem de_T_countSlack_35 : decode cd_T_countSlack 35 = .ok (.iload_n 1, 1) := by decide +kernel
theorem de_T_countSlack_36 : decode cd_T_countSlack 36 = .ok (.ireturn, 1) := by decide +kernel
abbrev cd_A_weight : ByteArray := method_3_code
abbrev yn_A_weight : MethodName := ⟨"StabilitySumsLaw", "weight", "(LStabilitySums;JJJJ[J)I"⟩
theorem de_A_weight_0 : decode cd_A_weight 0 = .ok (.aload 9, 2) := by decide +kernel
theorem de_A_weight_2 : decode cd_A_weight 2 = .ok (.iconst 0, 1) := by decide +kernel
theorem de_A_weight_3 : decode cd_A_weight 3 = .ok (.aload_n 0, 1) := by decide +kernel
theorem de_A_weight_4 : decode cd_A_weight 4 = .ok (.lload_n 1, 1) := by decide +kernel
theorem de_A_weight_5 : decode cd_A_weight 5 = .ok (.lload_n 3, 1) := by decide +kernel
theorem de_A_weight_6 : decode cd_A_weight 6 = .ok (.lload 5, 2) := by decide +kernel
theorem de_A_weight_8 : decode cd_A_weight 8 = .ok (.lload 7, 2) := by decide +kernel
theorem de_A_weight_10 : decode cd_A_weight 10 = .ok (.invokevirtual 7, 3) := by decide +kernel
theorem de_A_weight_13 : decode cd_A_weight 13 = .ok (.i2l, 1) := by decide +kernel
theorem de_A_weight_14 : decode cd_A_weight 14 = .ok (.lastore, 1) := by decide +kernel
theorem de_A_weight_15 : decode cd_A_weight 15 = .ok (.goto 11, 3) := by decide +kernel
theorem de_A_weight_18 : decode cd_A_weight 18 = .ok (.astore 10, 2) := by decide +kernel
theorem de_A_weight_20 : decode cd_A_weight 20 = .ok (.iconst 1, 1) := by decide +kernel
theorem de_A_weight_21 : decode cd_A_weight 21 = .ok (.ireturn, 1) := by decide +kernel
theorem de_A_weight_22 : decode cd_A_weight 22 = .ok (.astore 10, 2) := by decide +kernel
theorem de_A_weight_24 : decode cd_A_weight 24 = .ok (.iconst 2, 1) := by decide +kernel
theorem de_A_weight_25 : decode cd_A_weight 25 = .ok (.ireturn, 1) := by decide +kernel
theorem de_A_weight_26 : decode cd_A_weight 26 = .ok (.iconst 0, 1) := by decide +kernel
theorem de_A_weight_27 : decode cd_A_weight 27 = .ok (.ireturn, 1) := by decide +kernel
abbrev cd_S_weight : ByteArray := prog_1_method_2_code
abbrev yn_S_weight : MethodName := ⟨"StabilitySums", "weight", "(JJJJ)I"⟩
theorem de_S_weight_0 : decode cd_S_weight 0 = .ok (.lload_n 1, 1) := by decide +kernel
theorem de_S_weight_1 : decode cd_S_weight 1 = .ok (.lconst 0, 1) := by decide +kernel
theorem de_S_weight_2 : decode cd_S_weight 2 = .ok (.lcmp, 1) := by decide +kernel
theorem de_S_weight_3 : decode cd_S_weight 3 = .ok (.ifCond .eq 27, 3) := by decide +kernel
theorem de_S_weight_6 : decode cd_S_weight 6 = .ok (.lload_n 1, 1) := by decide +kernel
theorem de_S_weight_7 : decode cd_S_weight 7 = .ok (.ldc2_w 74, 3) := by decide +kernel
theorem de_S_weight_10 : decode cd_S_weight 10 = .ok (.ldc2_w 76, 3) := by decide +kernel
theorem de_S_weight_13 : decode cd_S_weight 13 = .ok (.invokestatic 78, 3) := by decide +kernel
theorem de_S_weight_16 : decode cd_S_weight 16 = .ok (.ifCond .eq 14, 3) := by decide +kernel
theorem de_S_weight_19 : decode cd_S_weight 19 = .ok (.lload_n 3, 1) := by decide +kernel
theorem de_S_weight_20 : decode cd_S_weight 20 = .ok (.lload 5, 2) := by decide +kernel
theorem de_S_weight_22 : decode cd_S_weight 22 = .ok (.lload 7, 2) := by decide +kernel
theorem de_S_weight_24 : decode cd_S_weight 24 = .ok (.invokestatic 82, 3) := by decide +kernel
theorem de_S_weight_27 : decode cd_S_weight 27 = .ok (.ifCond .ne 13, 3) := by decide +kernel
theorem de_S_weight_30 : decode cd_S_weight 30 = .ok (.new 85, 3) := by decide +kernel
theorem de_S_weight_33 : decode cd_S_weight 33 = .ok (.dup, 1) := by decide +kernel
theorem de_S_weight_34 : decode cd_S_weight 34 = .ok (.ldc 87, 2) := by decide +kernel
theorem de_S_weight_36 : decode cd_S_weight 36 = .ok (.invokespecial 89, 3) := by decide +kernel
theorem de_S_weight_39 : decode cd_S_weight 39 = .ok (.athrow, 1) := by decide +kernel
theorem de_S_weight_40 : decode cd_S_weight 40 = .ok (.aload_n 0, 1) := by decide +kernel
theorem de_S_weight_41 : decode cd_S_weight 41 = .ok (.getfield 10, 3) := by decide +kernel
theorem de_S_weight_44 : decode cd_S_weight 44 = .ok (.getfield 92, 3) := by decide +kernel
theorem de_S_weight_47 : decode cd_S_weight 47 = .ok (.bipush 40, 2) := by decide +kernel
theorem de_S_weight_49 : decode cd_S_weight 49 = .ok (.if_icmp .lt 13, 3) := by decide +kernel
theorem de_S_weight_52 : decode cd_S_weight 52 = .ok (.new 96, 3) := by decide +kernel
theorem de_S_weight_55 : decode cd_S_weight 55 = .ok (.dup, 1) := by decide +kernel
theorem de_S_weight_56 : decode cd_S_weight 56 = .ok (.ldc 98, 2) := by decide +kernel
theorem de_S_weight_58 : decode cd_S_weight 58 = .ok (.invokespecial 100, 3) := by decide +kernel
theorem de_S_weight_61 : decode cd_S_weight 61 = .ok (.athrow, 1) := by decide +kernel
theorem de_S_weight_62 : decode cd_S_weight 62 = .ok (.aload_n 0, 1) := by decide +kernel
theorem de_S_weight_63 : decode cd_S_weight 63 = .ok (.getfield 10, 3) := by decide +kernel
theorem de_S_weight_66 : decode cd_S_weight 66 = .ok (.lload_n 1, 1) := by decide +kernel
theorem de_S_weight_67 : decode cd_S_weight 67 = .ok (.lload_n 3, 1) := by decide +kernel
theorem de_S_weight_68 : decode cd_S_weight 68 = .ok (.lload 5, 2) := by decide +kernel
theorem de_S_weight_70 : decode cd_S_weight 70 = .ok (.lload 7, 2) := by decide +kernel
theorem de_S_weight_72 : decode cd_S_weight 72 = .ok (.invokevirtual 101, 3) := by decide +kernel
theorem de_S_weight_75 : decode cd_S_weight 75 = .ok (.ireturn, 1) := by decide +kernel
abbrev cd_S_arePlaces : ByteArray := prog_1_method_20_code
abbrev yn_S_arePlaces : MethodName := ⟨"StabilitySums", "arePlaces", "(JJJ)Z"⟩
theorem de_S_arePlaces_0 : decode cd_S_arePlaces 0 = .ok (.lload_n 0, 1) := by decide +kernel
theorem de_S_arePlaces_1 : decode cd_S_arePlaces 1 = .ok (.invokestatic 133, 3) := by decide +kernel
theorem de_S_arePlaces_4 : decode cd_S_arePlaces 4 = .ok (.ifCond .eq 22, 3) := by decide +kernel
theorem de_S_arePlaces_7 : decode cd_S_arePlaces 7 = .ok (.lload_n 2, 1) := by decide +kernel
theorem de_S_arePlaces_8 : decode cd_S_arePlaces 8 = .ok (.invokestatic 133, 3) := by decide +kernel
theorem de_S_arePlaces_11 : decode cd_S_arePlaces 11 = .ok (.ifCond .eq 15, 3) := by decide +kernel
theorem de_S_arePlaces_14 : decode cd_S_arePlaces 14 = .ok (.lload 4, 2) := by decide +kernel
theorem de_S_arePlaces_16 : decode cd_S_arePlaces 16 = .ok (.invokestatic 133, 3) := by decide +kernel
theorem de_S_arePlaces_19 : decode cd_S_arePlaces 19 = .ok (.ifCond .eq 7, 3) := by decide +kernel
theorem de_S_arePlaces_22 : decode cd_S_arePlaces 22 = .ok (.iconst 1, 1) := by decide +kernel
theorem de_S_arePlaces_23 : decode cd_S_arePlaces 23 = .ok (.goto 4, 3) := by decide +kernel
theorem de_S_arePlaces_26 : decode cd_S_arePlaces 26 = .ok (.iconst 0, 1) := by decide +kernel
theorem de_S_arePlaces_27 : decode cd_S_arePlaces 27 = .ok (.ireturn, 1) := by decide +kernel
abbrev cd_W_append : ByteArray := prog_9_method_2_code
abbrev yn_W_append : MethodName := ⟨"StabilitySums$Weights", "append", "(JJJJ)I"⟩
theorem de_W_append_0 : decode cd_W_append 0 = .ok (.aload_n 0, 1) := by decide +kernel
theorem de_W_append_1 : decode cd_W_append 1 = .ok (.getfield 24, 3) := by decide +kernel
theorem de_W_append_4 : decode cd_W_append 4 = .ok (.istore 9, 2) := by decide +kernel
theorem de_W_append_6 : decode cd_W_append 6 = .ok (.aload_n 0, 1) := by decide +kernel
theorem de_W_append_7 : decode cd_W_append 7 = .ok (.getfield 9, 3) := by decide +kernel
theorem de_W_append_10 : decode cd_W_append 10 = .ok (.iload 9, 2) := by decide +kernel
theorem de_W_append_12 : decode cd_W_append 12 = .ok (.lload_n 1, 1) := by decide +kernel
theorem de_W_append_13 : decode cd_W_append 13 = .ok (.lastore, 1) := by decide +kernel
theorem de_W_append_14 : decode cd_W_append 14 = .ok (.aload_n 0, 1) := by decide +kernel
theorem de_W_append_15 : decode cd_W_append 15 = .ok (.getfield 15, 3) := by decide +kernel
theorem de_W_append_18 : decode cd_W_append 18 = .ok (.iload 9, 2) := by decide +kernel
theorem de_W_append_20 : decode cd_W_append 20 = .ok (.lload_n 3, 1) := by decide +kernel
theorem de_W_append_21 : decode cd_W_append 21 = .ok (.lastore, 1) := by decide +kernel
theorem de_W_append_22 : decode cd_W_append 22 = .ok (.aload_n 0, 1) := by decide +kernel
theorem de_W_append_23 : decode cd_W_append 23 = .ok (.getfield 18, 3) := by decide +kernel
theorem de_W_append_26 : decode cd_W_append 26 = .ok (.iload 9, 2) := by decide +kernel
theorem de_W_append_28 : decode cd_W_append 28 = .ok (.lload 5, 2) := by decide +kernel
theorem de_W_append_30 : decode cd_W_append 30 = .ok (.lastore, 1) := by decide +kernel
theorem de_W_append_31 : decode cd_W_append 31 = .ok (.aload_n 0, 1) := by decide +kernel
theorem de_W_append_32 : decode cd_W_append 32 = .ok (.getfield 21, 3) := by decide +kernel
theorem de_W_append_35 : decode cd_W_append 35 = .ok (.iload 9, 2) := by decide +kernel
theorem de_W_append_37 : decode cd_W_append 37 = .ok (.lload 7, 2) := by decide +kernel
theorem de_W_append_39 : decode cd_W_append 39 = .ok (.lastore, 1) := by decide +kernel
theorem de_W_append_40 : decode cd_W_append 40 = .ok (.aload_n 0, 1) := by decide +kernel
theorem de_W_append_41 : decode cd_W_append 41 = .ok (.dup, 1) := by decide +kernel
theorem de_W_append_42 : decode cd_W_append 42 = .ok (.getfield 24, 3) := by decide +kernel
theorem de_W_append_45 : decode cd_W_append 45 = .ok (.iconst 1, 1) := by decide +kernel
theorem de_W_append_46 : decode cd_W_append 46 = .ok (.iadd, 1) := by decide +kernel
theorem de_W_append_47 : decode cd_W_append 47 = .ok (.putfield 24, 3) := by decide +kernel
theorem de_W_append_50 : decode cd_W_append 50 = .ok (.iload 9, 2) := by decide +kernel
theorem de_W_append_52 : decode cd_W_append 52 = .ok (.ireturn, 1) := by decide +kernel
abbrev cd_A_tank : ByteArray := method_4_code
abbrev yn_A_tank : MethodName := ⟨"StabilitySumsLaw", "tank", "(LStabilitySums;JJJJJ[J)I"⟩
theorem de_A_tank_0 : decode cd_A_tank 0 = .ok (.aload 11, 2) := by decide +kernel
theorem de_A_tank_2 : decode cd_A_tank 2 = .ok (.iconst 0, 1) := by decide +kernel
theorem de_A_tank_3 : decode cd_A_tank 3 = .ok (.aload_n 0, 1) := by decide +kernel
theorem de_A_tank_4 : decode cd_A_tank 4 = .ok (.lload_n 1, 1) := by decide +kernel
theorem de_A_tank_5 : decode cd_A_tank 5 = .ok (.lload_n 3, 1) := by decide +kernel
theorem de_A_tank_6 : decode cd_A_tank 6 = .ok (.lload 5, 2) := by decide +kernel
theorem de_A_tank_8 : decode cd_A_tank 8 = .ok (.lload 7, 2) := by decide +kernel
theorem de_A_tank_10 : decode cd_A_tank 10 = .ok (.lload 9, 2) := by decide +kernel
theorem de_A_tank_12 : decode cd_A_tank 12 = .ok (.invokevirtual 17, 3) := by decide +kernel
theorem de_A_tank_15 : decode cd_A_tank 15 = .ok (.i2l, 1) := by decide +kernel
theorem de_A_tank_16 : decode cd_A_tank 16 = .ok (.lastore, 1) := by decide +kernel
theorem de_A_tank_17 : decode cd_A_tank 17 = .ok (.goto 11, 3) := by decide +kernel
theorem de_A_tank_20 : decode cd_A_tank 20 = .ok (.astore 12, 2) := by decide +kernel
theorem de_A_tank_22 : decode cd_A_tank 22 = .ok (.iconst 1, 1) := by decide +kernel
theorem de_A_tank_23 : decode cd_A_tank 23 = .ok (.ireturn, 1) := by decide +kernel
theorem de_A_tank_24 : decode cd_A_tank 24 = .ok (.astore 12, 2) := by decide +kernel
theorem de_A_tank_26 : decode cd_A_tank 26 = .ok (.iconst 2, 1) := by decide +kernel
theorem de_A_tank_27 : decode cd_A_tank 27 = .ok (.ireturn, 1) := by decide +kernel
theorem de_A_tank_28 : decode cd_A_tank 28 = .ok (.iconst 0, 1) := by decide +kernel
theorem de_A_tank_29 : decode cd_A_tank 29 = .ok (.ireturn, 1) := by decide +kernel
abbrev cd_S_tank : ByteArray := prog_1_method_3_code
abbrev yn_S_tank : MethodName := ⟨"StabilitySums", "tank", "(JJJJJ)I"⟩
theorem de_S_tank_0 : decode cd_S_tank 0 = .ok (.lload_n 1, 1) := by decide +kernel
theorem de_S_tank_1 : decode cd_S_tank 1 = .ok (.ldc2_w 105, 3) := by decide +kernel
theorem de_S_tank_4 : decode cd_S_tank 4 = .ok (.ldc2_w 107, 3) := by decide +kernel
theorem de_S_tank_7 : decode cd_S_tank 7 = .ok (.invokestatic 78, 3) := by decide +kernel
theorem de_S_tank_10 : decode cd_S_tank 10 = .ok (.ifCond .eq 36, 3) := by decide +kernel
theorem de_S_tank_13 : decode cd_S_tank 13 = .ok (.lload_n 1, 1) := by decide +kernel
theorem de_S_tank_14 : decode cd_S_tank 14 = .ok (.ldc2_w 105, 3) := by decide +kernel
theorem de_S_tank_17 : decode cd_S_tank 17 = .ok (.lrem, 1) := by decide +kernel
theorem de_S_tank_18 : decode cd_S_tank 18 = .ok (.lconst 0, 1) := by decide +kernel
theorem de_S_tank_19 : decode cd_S_tank 19 = .ok (.lcmp, 1) := by decide +kernel
theorem de_S_tank_20 : decode cd_S_tank 20 = .ok (.ifCond .ne 26, 3) := by decide +kernel
theorem de_S_tank_23 : decode cd_S_tank 23 = .ok (.lload_n 3, 1) := by decide +kernel
theorem de_S_tank_24 : decode cd_S_tank 24 = .ok (.lconst 0, 1) := by decide +kernel
theorem de_S_tank_25 : decode cd_S_tank 25 = .ok (.ldc2_w 109, 3) := by decide +kernel
theorem de_S_tank_28 : decode cd_S_tank 28 = .ok (.invokestatic 78, 3) := by decide +kernel
theorem de_S_tank_31 : decode cd_S_tank 31 = .ok (.ifCond .eq 15, 3) := by decide +kernel
theorem de_S_tank_34 : decode cd_S_tank 34 = .ok (.lload 5, 2) := by decide +kernel
theorem de_S_tank_36 : decode cd_S_tank 36 = .ok (.lload 7, 2) := by decide +kernel
theorem de_S_tank_38 : decode cd_S_tank 38 = .ok (.lload 9, 2) := by decide +kernel
theorem de_S_tank_40 : decode cd_S_tank 40 = .ok (.invokestatic 82, 3) := by decide +kernel
theorem de_S_tank_43 : decode cd_S_tank 43 = .ok (.ifCond .ne 13, 3) := by decide +kernel
theorem de_S_tank_46 : decode cd_S_tank 46 = .ok (.new 85, 3) := by decide +kernel
theorem de_S_tank_49 : decode cd_S_tank 49 = .ok (.dup, 1) := by decide +kernel
theorem de_S_tank_50 : decode cd_S_tank 50 = .ok (.ldc 111, 2) := by decide +kernel
theorem de_S_tank_52 : decode cd_S_tank 52 = .ok (.invokespecial 89, 3) := by decide +kernel
theorem de_S_tank_55 : decode cd_S_tank 55 = .ok (.athrow, 1) := by decide +kernel
theorem de_S_tank_56 : decode cd_S_tank 56 = .ok (.aload_n 0, 1) := by decide +kernel
theorem de_S_tank_57 : decode cd_S_tank 57 = .ok (.getfield 19, 3) := by decide +kernel
theorem de_S_tank_60 : decode cd_S_tank 60 = .ok (.getfield 113, 3) := by decide +kernel
theorem de_S_tank_63 : decode cd_S_tank 63 = .ok (.iconst 4, 1) := by decide +kernel
theorem de_S_tank_64 : decode cd_S_tank 64 = .ok (.if_icmp .lt 13, 3) := by decide +kernel
theorem de_S_tank_67 : decode cd_S_tank 67 = .ok (.new 96, 3) := by decide +kernel
theorem de_S_tank_70 : decode cd_S_tank 70 = .ok (.dup, 1) := by decide +kernel
theorem de_S_tank_71 : decode cd_S_tank 71 = .ok (.ldc 114, 2) := by decide +kernel
theorem de_S_tank_73 : decode cd_S_tank 73 = .ok (.invokespecial 100, 3) := by decide +kernel
theorem de_S_tank_76 : decode cd_S_tank 76 = .ok (.athrow, 1) := by decide +kernel
theorem de_S_tank_77 : decode cd_S_tank 77 = .ok (.aload_n 0, 1) := by decide +kernel
theorem de_S_tank_78 : decode cd_S_tank 78 = .ok (.getfield 19, 3) := by decide +kernel
theorem de_S_tank_81 : decode cd_S_tank 81 = .ok (.lload_n 1, 1) := by decide +kernel
theorem de_S_tank_82 : decode cd_S_tank 82 = .ok (.lload_n 3, 1) := by decide +kernel
theorem de_S_tank_83 : decode cd_S_tank 83 = .ok (.lload 5, 2) := by decide +kernel
theorem de_S_tank_85 : decode cd_S_tank 85 = .ok (.lload 7, 2) := by decide +kernel
theorem de_S_tank_87 : decode cd_S_tank 87 = .ok (.lload 9, 2) := by decide +kernel
theorem de_S_tank_89 : decode cd_S_tank 89 = .ok (.invokevirtual 116, 3) := by decide +kernel
theorem de_S_tank_92 : decode cd_S_tank 92 = .ok (.ireturn, 1) := by decide +kernel
abbrev cd_T_append : ByteArray := prog_8_method_2_code
abbrev yn_T_append : MethodName := ⟨"StabilitySums$Tanks", "append", "(JJJJJ)I"⟩
theorem de_T_append_0 : decode cd_T_append 0 = .ok (.aload_n 0, 1) := by decide +kernel
theorem de_T_append_1 : decode cd_T_append 1 = .ok (.getfield 36, 3) := by decide +kernel
theorem de_T_append_4 : decode cd_T_append 4 = .ok (.istore 11, 2) := by decide +kernel
theorem de_T_append_6 : decode cd_T_append 6 = .ok (.aload_n 0, 1) := by decide +kernel
theorem de_T_append_7 : decode cd_T_append 7 = .ok (.getfield 9, 3) := by decide +kernel
theorem de_T_append_10 : decode cd_T_append 10 = .ok (.iload 11, 2) := by decide +kernel
theorem de_T_append_12 : decode cd_T_append 12 = .ok (.lload_n 1, 1) := by decide +kernel
theorem de_T_append_13 : decode cd_T_append 13 = .ok (.lastore, 1) := by decide +kernel
theorem de_T_append_14 : decode cd_T_append 14 = .ok (.aload_n 0, 1) := by decide +kernel
theorem de_T_append_15 : decode cd_T_append 15 = .ok (.getfield 15, 3) := by decide +kernel
theorem de_T_append_18 : decode cd_T_append 18 = .ok (.iload 11, 2) := by decide +kernel
theorem de_T_append_20 : decode cd_T_append 20 = .ok (.lload_n 3, 1) := by decide +kernel
theorem de_T_append_21 : decode cd_T_append 21 = .ok (.lastore, 1) := by decide +kernel
theorem de_T_append_22 : decode cd_T_append 22 = .ok (.aload_n 0, 1) := by decide +kernel
theorem de_T_append_23 : decode cd_T_append 23 = .ok (.getfield 18, 3) := by decide +kernel
theorem de_T_append_26 : decode cd_T_append 26 = .ok (.iload 11, 2) := by decide +kernel
theorem de_T_append_28 : decode cd_T_append 28 = .ok (.lload 5, 2) := by decide +kernel
theorem de_T_append_30 : decode cd_T_append 30 = .ok (.lastore, 1) := by decide +kernel
theorem de_T_append_31 : decode cd_T_append 31 = .ok (.aload_n 0, 1) := by decide +kernel
theorem de_T_append_32 : decode cd_T_append 32 = .ok (.getfield 21, 3) := by decide +kernel
theorem de_T_append_35 : decode cd_T_append 35 = .ok (.iload 11, 2) := by decide +kernel
theorem de_T_append_37 : decode cd_T_append 37 = .ok (.lload 7, 2) := by decide +kernel
theorem de_T_append_39 : decode cd_T_append 39 = .ok (.lastore, 1) := by decide +kernel
theorem de_T_append_40 : decode cd_T_append 40 = .ok (.aload_n 0, 1) := by decide +kernel
theorem de_T_append_41 : decode cd_T_append 41 = .ok (.getfield 24, 3) := by decide +kernel
theorem de_T_append_44 : decode cd_T_append 44 = .ok (.iload 11, 2) := by decide +kernel
theorem de_T_append_46 : decode cd_T_append 46 = .ok (.lload 9, 2) := by decide +kernel
theorem de_T_append_48 : decode cd_T_append 48 = .ok (.lastore, 1) := by decide +kernel
theorem de_T_append_49 : decode cd_T_append 49 = .ok (.aload_n 0, 1) := by decide +kernel
theorem de_T_append_50 : decode cd_T_append 50 = .ok (.dup, 1) := by decide +kernel
theorem de_T_append_51 : decode cd_T_append 51 = .ok (.getfield 36, 3) := by decide +kernel
theorem de_T_append_54 : decode cd_T_append 54 = .ok (.iconst 1, 1) := by decide +kernel
theorem de_T_append_55 : decode cd_T_append 55 = .ok (.iadd, 1) := by decide +kernel
theorem de_T_append_56 : decode cd_T_append 56 = .ok (.putfield 36, 3) := by decide +kernel
theorem de_T_append_59 : decode cd_T_append 59 = .ok (.iload 11, 2) := by decide +kernel
theorem de_T_append_61 : decode cd_T_append 61 = .ok (.ireturn, 1) := by decide +kernel
abbrev cd_A_filled : ByteArray := method_5_code
abbrev yn_A_filled : MethodName := ⟨"StabilitySumsLaw", "filled", "(LStabilitySums;IJ[J)I"⟩
theorem de_A_filled_0 : decode cd_A_filled 0 = .ok (.aload 4, 2) := by decide +kernel
theorem de_A_filled_2 : decode cd_A_filled 2 = .ok (.iconst 0, 1) := by decide +kernel
theorem de_A_filled_3 : decode cd_A_filled 3 = .ok (.aload_n 0, 1) := by decide +kernel
theorem de_A_filled_4 : decode cd_A_filled 4 = .ok (.iload_n 1, 1) := by decide +kernel
theorem de_A_filled_5 : decode cd_A_filled 5 = .ok (.lload_n 2, 1) := by decide +kernel
theorem de_A_filled_6 : decode cd_A_filled 6 = .ok (.invokevirtual 21, 3) := by decide +kernel
theorem de_A_filled_9 : decode cd_A_filled 9 = .ok (.i2l, 1) := by decide +kernel
theorem de_A_filled_10 : decode cd_A_filled 10 = .ok (.lastore, 1) := by decide +kernel
theorem de_A_filled_11 : decode cd_A_filled 11 = .ok (.goto 7, 3) := by decide +kernel
theorem de_A_filled_14 : decode cd_A_filled 14 = .ok (.astore 5, 2) := by decide +kernel
theorem de_A_filled_16 : decode cd_A_filled 16 = .ok (.iconst 1, 1) := by decide +kernel
theorem de_A_filled_17 : decode cd_A_filled 17 = .ok (.ireturn, 1) := by decide +kernel
theorem de_A_filled_18 : decode cd_A_filled 18 = .ok (.iconst 0, 1) := by decide +kernel
theorem de_A_filled_19 : decode cd_A_filled 19 = .ok (.ireturn, 1) := by decide +kernel
abbrev cd_S_filled : ByteArray := prog_1_method_4_code
abbrev yn_S_filled : MethodName := ⟨"StabilitySums", "filled", "(IJ)I"⟩
theorem de_S_filled_0 : decode cd_S_filled 0 = .ok (.iload_n 1, 1) := by decide +kernel
theorem de_S_filled_1 : decode cd_S_filled 1 = .ok (.i2l, 1) := by decide +kernel
theorem de_S_filled_2 : decode cd_S_filled 2 = .ok (.lconst 0, 1) := by decide +kernel
theorem de_S_filled_3 : decode cd_S_filled 3 = .ok (.aload_n 0, 1) := by decide +kernel
theorem de_S_filled_4 : decode cd_S_filled 4 = .ok (.getfield 19, 3) := by decide +kernel
theorem de_S_filled_7 : decode cd_S_filled 7 = .ok (.getfield 113, 3) := by decide +kernel
theorem de_S_filled_10 : decode cd_S_filled 10 = .ok (.i2l, 1) := by decide +kernel
theorem de_S_filled_11 : decode cd_S_filled 11 = .ok (.lconst 1, 1) := by decide +kernel
theorem de_S_filled_12 : decode cd_S_filled 12 = .ok (.lsub, 1) := by decide +kernel
theorem de_S_filled_13 : decode cd_S_filled 13 = .ok (.invokestatic 78, 3) := by decide +kernel
theorem de_S_filled_16 : decode cd_S_filled 16 = .ok (.ifCond .ne 13, 3) := by decide +kernel
theorem de_S_filled_19 : decode cd_S_filled 19 = .ok (.new 119, 3) := by decide +kernel
theorem de_S_filled_22 : decode cd_S_filled 22 = .ok (.dup, 1) := by decide +kernel
theorem de_S_filled_23 : decode cd_S_filled 23 = .ok (.ldc 121, 2) := by decide +kernel
theorem de_S_filled_25 : decode cd_S_filled 25 = .ok (.invokespecial 123, 3) := by decide +kernel
theorem de_S_filled_28 : decode cd_S_filled 28 = .ok (.athrow, 1) := by decide +kernel
theorem de_S_filled_29 : decode cd_S_filled 29 = .ok (.lload_n 2, 1) := by decide +kernel
theorem de_S_filled_30 : decode cd_S_filled 30 = .ok (.lconst 0, 1) := by decide +kernel
theorem de_S_filled_31 : decode cd_S_filled 31 = .ok (.aload_n 0, 1) := by decide +kernel
theorem de_S_filled_32 : decode cd_S_filled 32 = .ok (.getfield 19, 3) := by decide +kernel
theorem de_S_filled_35 : decode cd_S_filled 35 = .ok (.getfield 124, 3) := by decide +kernel
theorem de_S_filled_38 : decode cd_S_filled 38 = .ok (.iload_n 1, 1) := by decide +kernel
theorem de_S_filled_39 : decode cd_S_filled 39 = .ok (.laload, 1) := by decide +kernel
theorem de_S_filled_40 : decode cd_S_filled 40 = .ok (.invokestatic 78, 3) := by decide +kernel
theorem de_S_filled_43 : decode cd_S_filled 43 = .ok (.ifCond .ne 5, 3) := by decide +kernel
theorem de_S_filled_46 : decode cd_S_filled 46 = .ok (.iconst 0, 1) := by decide +kernel
theorem de_S_filled_47 : decode cd_S_filled 47 = .ok (.ireturn, 1) := by decide +kernel
theorem de_S_filled_48 : decode cd_S_filled 48 = .ok (.aload_n 0, 1) := by decide +kernel
theorem de_S_filled_49 : decode cd_S_filled 49 = .ok (.getfield 19, 3) := by decide +kernel
theorem de_S_filled_52 : decode cd_S_filled 52 = .ok (.getfield 128, 3) := by decide +kernel
theorem de_S_filled_55 : decode cd_S_filled 55 = .ok (.iload_n 1, 1) := by decide +kernel
theorem de_S_filled_56 : decode cd_S_filled 56 = .ok (.lload_n 2, 1) := by decide +kernel
theorem de_S_filled_57 : decode cd_S_filled 57 = .ok (.lastore, 1) := by decide +kernel
theorem de_S_filled_58 : decode cd_S_filled 58 = .ok (.iconst 1, 1) := by decide +kernel
theorem de_S_filled_59 : decode cd_S_filled 59 = .ok (.ireturn, 1) := by decide +kernel
abbrev cd_A_hydro : ByteArray := method_6_code
abbrev yn_A_hydro : MethodName := ⟨"StabilitySumsLaw", "hydro", "(LStabilitySums;JJJ[J)I"⟩
theorem de_A_hydro_0 : decode cd_A_hydro 0 = .ok (.aload 7, 2) := by decide +kernel
theorem de_A_hydro_2 : decode cd_A_hydro 2 = .ok (.iconst 0, 1) := by decide +kernel
theorem de_A_hydro_3 : decode cd_A_hydro 3 = .ok (.aload_n 0, 1) := by decide +kernel
theorem de_A_hydro_4 : decode cd_A_hydro 4 = .ok (.lload_n 1, 1) := by decide +kernel
theorem de_A_hydro_5 : decode cd_A_hydro 5 = .ok (.lload_n 3, 1) := by decide +kernel
theorem de_A_hydro_6 : decode cd_A_hydro 6 = .ok (.lload 5, 2) := by decide +kernel
theorem de_A_hydro_8 : decode cd_A_hydro 8 = .ok (.invokevirtual 27, 3) := by decide +kernel
theorem de_A_hydro_11 : decode cd_A_hydro 11 = .ok (.i2l, 1) := by decide +kernel
theorem de_A_hydro_12 : decode cd_A_hydro 12 = .ok (.lastore, 1) := by decide +kernel
theorem de_A_hydro_13 : decode cd_A_hydro 13 = .ok (.goto 11, 3) := by decide +kernel
theorem de_A_hydro_16 : decode cd_A_hydro 16 = .ok (.astore 8, 2) := by decide +kernel
theorem de_A_hydro_18 : decode cd_A_hydro 18 = .ok (.iconst 1, 1) := by decide +kernel
theorem de_A_hydro_19 : decode cd_A_hydro 19 = .ok (.ireturn, 1) := by decide +kernel
theorem de_A_hydro_20 : decode cd_A_hydro 20 = .ok (.astore 8, 2) := by decide +kernel
theorem de_A_hydro_22 : decode cd_A_hydro 22 = .ok (.iconst 2, 1) := by decide +kernel
theorem de_A_hydro_23 : decode cd_A_hydro 23 = .ok (.ireturn, 1) := by decide +kernel
theorem de_A_hydro_24 : decode cd_A_hydro 24 = .ok (.iconst 0, 1) := by decide +kernel
theorem de_A_hydro_25 : decode cd_A_hydro 25 = .ok (.ireturn, 1) := by decide +kernel
abbrev cd_S_hydro : ByteArray := prog_1_method_5_code
abbrev yn_S_hydro : MethodName := ⟨"StabilitySums", "hydro", "(JJJ)I"⟩
theorem de_S_hydro_0 : decode cd_S_hydro 0 = .ok (.lload_n 1, 1) := by decide +kernel
theorem de_S_hydro_1 : decode cd_S_hydro 1 = .ok (.lconst 1, 1) := by decide +kernel
theorem de_S_hydro_2 : decode cd_S_hydro 2 = .ok (.ldc2_w 131, 3) := by decide +kernel
theorem de_S_hydro_5 : decode cd_S_hydro 5 = .ok (.invokestatic 78, 3) := by decide +kernel
theorem de_S_hydro_8 : decode cd_S_hydro 8 = .ok (.ifCond .eq 30, 3) := by decide +kernel
theorem de_S_hydro_11 : decode cd_S_hydro 11 = .ok (.lload_n 3, 1) := by decide +kernel
theorem de_S_hydro_12 : decode cd_S_hydro 12 = .ok (.invokestatic 133, 3) := by decide +kernel
theorem de_S_hydro_15 : decode cd_S_hydro 15 = .ok (.ifCond .eq 23, 3) := by decide +kernel
theorem de_S_hydro_18 : decode cd_S_hydro 18 = .ok (.lload 5, 2) := by decide +kernel
theorem de_S_hydro_20 : decode cd_S_hydro 20 = .ok (.invokestatic 133, 3) := by decide +kernel
theorem de_S_hydro_23 : decode cd_S_hydro 23 = .ok (.ifCond .eq 15, 3) := by decide +kernel
theorem de_S_hydro_26 : decode cd_S_hydro 26 = .ok (.lload_n 1, 1) := by decide +kernel
theorem de_S_hydro_27 : decode cd_S_hydro 27 = .ok (.aload_n 0, 1) := by decide +kernel
theorem de_S_hydro_28 : decode cd_S_hydro 28 = .ok (.getfield 26, 3) := by decide +kernel
theorem de_S_hydro_31 : decode cd_S_hydro 31 = .ok (.invokevirtual 137, 3) := by decide +kernel
theorem de_S_hydro_34 : decode cd_S_hydro 34 = .ok (.lcmp, 1) := by decide +kernel
theorem de_S_hydro_35 : decode cd_S_hydro 35 = .ok (.ifCond .gt 13, 3) := by decide +kernel
theorem de_S_hydro_38 : decode cd_S_hydro 38 = .ok (.new 85, 3) := by decide +kernel
theorem de_S_hydro_41 : decode cd_S_hydro 41 = .ok (.dup, 1) := by decide +kernel
theorem de_S_hydro_42 : decode cd_S_hydro 42 = .ok (.ldc 141, 2) := by decide +kernel
theorem de_S_hydro_44 : decode cd_S_hydro 44 = .ok (.invokespecial 89, 3) := by decide +kernel
theorem de_S_hydro_47 : decode cd_S_hydro 47 = .ok (.athrow, 1) := by decide +kernel
theorem de_S_hydro_48 : decode cd_S_hydro 48 = .ok (.aload_n 0, 1) := by decide +kernel
theorem de_S_hydro_49 : decode cd_S_hydro 49 = .ok (.getfield 26, 3) := by decide +kernel
theorem de_S_hydro_52 : decode cd_S_hydro 52 = .ok (.getfield 143, 3) := by decide +kernel
theorem de_S_hydro_55 : decode cd_S_hydro 55 = .ok (.bipush 12, 2) := by decide +kernel
theorem de_S_hydro_57 : decode cd_S_hydro 57 = .ok (.if_icmp .lt 13, 3) := by decide +kernel
theorem de_S_hydro_60 : decode cd_S_hydro 60 = .ok (.new 96, 3) := by decide +kernel
theorem de_S_hydro_63 : decode cd_S_hydro 63 = .ok (.dup, 1) := by decide +kernel
theorem de_S_hydro_64 : decode cd_S_hydro 64 = .ok (.ldc 144, 2) := by decide +kernel
theorem de_S_hydro_66 : decode cd_S_hydro 66 = .ok (.invokespecial 100, 3) := by decide +kernel
theorem de_S_hydro_69 : decode cd_S_hydro 69 = .ok (.athrow, 1) := by decide +kernel
theorem de_S_hydro_70 : decode cd_S_hydro 70 = .ok (.aload_n 0, 1) := by decide +kernel
theorem de_S_hydro_71 : decode cd_S_hydro 71 = .ok (.getfield 26, 3) := by decide +kernel
theorem de_S_hydro_74 : decode cd_S_hydro 74 = .ok (.lload_n 1, 1) := by decide +kernel
theorem de_S_hydro_75 : decode cd_S_hydro 75 = .ok (.lload_n 3, 1) := by decide +kernel
theorem de_S_hydro_76 : decode cd_S_hydro 76 = .ok (.lload 5, 2) := by decide +kernel
theorem de_S_hydro_78 : decode cd_S_hydro 78 = .ok (.invokevirtual 146, 3) := by decide +kernel
theorem de_S_hydro_81 : decode cd_S_hydro 81 = .ok (.ireturn, 1) := by decide +kernel
abbrev cd_B_lastDisplacement : ByteArray := prog_7_method_3_code
abbrev yn_B_lastDisplacement : MethodName := ⟨"StabilitySums$Table", "lastDisplacement", "()J"⟩
theorem de_B_lastDisplacement_0 : decode cd_B_lastDisplacement 0 = .ok (.aload_n 0, 1) := by decide +kernel
theorem de_B_lastDisplacement_1 : decode cd_B_lastDisplacement 1 = .ok (.getfield 21, 3) := by decide +kernel
theorem de_B_lastDisplacement_4 : decode cd_B_lastDisplacement 4 = .ok (.ifCond .ne 7, 3) := by decide +kernel
theorem de_B_lastDisplacement_7 : decode cd_B_lastDisplacement 7 = .ok (.lconst 0, 1) := by decide +kernel
theorem de_B_lastDisplacement_8 : decode cd_B_lastDisplacement 8 = .ok (.goto 14, 3) := by decide +kernel
theorem de_B_lastDisplacement_11 : decode cd_B_lastDisplacement 11 = .ok (.aload_n 0, 1) := by decide +kernel
theorem de_B_lastDisplacement_12 : decode cd_B_lastDisplacement 12 = .ok (.getfield 9, 3) := by decide +kernel
theorem de_B_lastDisplacement_15 : decode cd_B_lastDisplacement 15 = .ok (.aload_n 0, 1) := by decide +kernel
theorem de_B_lastDisplacement_16 : decode cd_B_lastDisplacement 16 = .ok (.getfield 21, 3) := by decide +kernel
theorem de_B_lastDisplacement_19 : decode cd_B_lastDisplacement 19 = .ok (.iconst 1, 1) := by decide +kernel
theorem de_B_lastDisplacement_20 : decode cd_B_lastDisplacement 20 = .ok (.isub, 1) := by decide +kernel
theorem de_B_lastDisplacement_21 : decode cd_B_lastDisplacement 21 = .ok (.laload, 1) := by decide +kernel
theorem de_B_lastDisplacement_22 : decode cd_B_lastDisplacement 22 = .ok (.lreturn, 1) := by decide +kernel
abbrev cd_B_append : ByteArray := prog_7_method_2_code
abbrev yn_B_append : MethodName := ⟨"StabilitySums$Table", "append", "(JJJ)I"⟩
theorem de_B_append_0 : decode cd_B_append 0 = .ok (.aload_n 0, 1) := by decide +kernel
theorem de_B_append_1 : decode cd_B_append 1 = .ok (.getfield 9, 3) := by decide +kernel
theorem de_B_append_4 : decode cd_B_append 4 = .ok (.aload_n 0, 1) := by decide +kernel
theorem de_B_append_5 : decode cd_B_append 5 = .ok (.getfield 21, 3) := by decide +kernel
theorem de_B_append_8 : decode cd_B_append 8 = .ok (.lload_n 1, 1) := by decide +kernel
theorem de_B_append_9 : decode cd_B_append 9 = .ok (.lastore, 1) := by decide +kernel
theorem de_B_append_10 : decode cd_B_append 10 = .ok (.aload_n 0, 1) := by decide +kernel
theorem de_B_append_11 : decode cd_B_append 11 = .ok (.getfield 15, 3) := by decide +kernel
theorem de_B_append_14 : decode cd_B_append 14 = .ok (.aload_n 0, 1) := by decide +kernel
theorem de_B_append_15 : decode cd_B_append 15 = .ok (.getfield 21, 3) := by decide +kernel
theorem de_B_append_18 : decode cd_B_append 18 = .ok (.lload_n 3, 1) := by decide +kernel
theorem de_B_append_19 : decode cd_B_append 19 = .ok (.lastore, 1) := by decide +kernel
theorem de_B_append_20 : decode cd_B_append 20 = .ok (.aload_n 0, 1) := by decide +kernel
theorem de_B_append_21 : decode cd_B_append 21 = .ok (.getfield 18, 3) := by decide +kernel
theorem de_B_append_24 : decode cd_B_append 24 = .ok (.aload_n 0, 1) := by decide +kernel
theorem de_B_append_25 : decode cd_B_append 25 = .ok (.getfield 21, 3) := by decide +kernel
theorem de_B_append_28 : decode cd_B_append 28 = .ok (.lload 5, 2) := by decide +kernel
theorem de_B_append_30 : decode cd_B_append 30 = .ok (.lastore, 1) := by decide +kernel
theorem de_B_append_31 : decode cd_B_append 31 = .ok (.aload_n 0, 1) := by decide +kernel
theorem de_B_append_32 : decode cd_B_append 32 = .ok (.dup, 1) := by decide +kernel
theorem de_B_append_33 : decode cd_B_append 33 = .ok (.getfield 21, 3) := by decide +kernel
theorem de_B_append_36 : decode cd_B_append 36 = .ok (.iconst 1, 1) := by decide +kernel
theorem de_B_append_37 : decode cd_B_append 37 = .ok (.iadd, 1) := by decide +kernel
theorem de_B_append_38 : decode cd_B_append 38 = .ok (.putfield 21, 3) := by decide +kernel
theorem de_B_append_41 : decode cd_B_append 41 = .ok (.aload_n 0, 1) := by decide +kernel
theorem de_B_append_42 : decode cd_B_append 42 = .ok (.getfield 21, 3) := by decide +kernel
theorem de_B_append_45 : decode cd_B_append 45 = .ok (.ireturn, 1) := by decide +kernel
abbrev cd_A_value : ByteArray := method_7_code
abbrev yn_A_value : MethodName := ⟨"StabilitySumsLaw", "value", "(LStabilitySums;II[J)I"⟩
theorem de_A_value_0 : decode cd_A_value 0 = .ok (.aload_n 3, 1) := by decide +kernel
theorem de_A_value_1 : decode cd_A_value 1 = .ok (.iconst 0, 1) := by decide +kernel
theorem de_A_value_2 : decode cd_A_value 2 = .ok (.aload_n 0, 1) := by decide +kernel
theorem de_A_value_3 : decode cd_A_value 3 = .ok (.iload_n 1, 1) := by decide +kernel
theorem de_A_value_4 : decode cd_A_value 4 = .ok (.iload_n 2, 1) := by decide +kernel
theorem de_A_value_5 : decode cd_A_value 5 = .ok (.invokevirtual 31, 3) := by decide +kernel
theorem de_A_value_8 : decode cd_A_value 8 = .ok (.lastore, 1) := by decide +kernel
theorem de_A_value_9 : decode cd_A_value 9 = .ok (.goto 11, 3) := by decide +kernel
theorem de_A_value_12 : decode cd_A_value 12 = .ok (.astore 4, 2) := by decide +kernel
theorem de_A_value_14 : decode cd_A_value 14 = .ok (.iconst 1, 1) := by decide +kernel
theorem de_A_value_15 : decode cd_A_value 15 = .ok (.ireturn, 1) := by decide +kernel
theorem de_A_value_16 : decode cd_A_value 16 = .ok (.astore 4, 2) := by decide +kernel
theorem de_A_value_18 : decode cd_A_value 18 = .ok (.iconst 2, 1) := by decide +kernel
theorem de_A_value_19 : decode cd_A_value 19 = .ok (.ireturn, 1) := by decide +kernel
theorem de_A_value_20 : decode cd_A_value 20 = .ok (.iconst 0, 1) := by decide +kernel
theorem de_A_value_21 : decode cd_A_value 21 = .ok (.ireturn, 1) := by decide +kernel
abbrev cd_S_value : ByteArray := prog_1_method_7_code
abbrev yn_S_value : MethodName := ⟨"StabilitySums", "value", "(II)J"⟩
theorem de_S_value_0 : decode cd_S_value 0 = .ok (.iload_n 1, 1) := by decide +kernel
theorem de_S_value_1 : decode cd_S_value 1 = .ok (.i2l, 1) := by decide +kernel
theorem de_S_value_2 : decode cd_S_value 2 = .ok (.lconst 0, 1) := by decide +kernel
theorem de_S_value_3 : decode cd_S_value 3 = .ok (.ldc2_w 149, 3) := by decide +kernel
theorem de_S_value_6 : decode cd_S_value 6 = .ok (.invokestatic 78, 3) := by decide +kernel
theorem de_S_value_9 : decode cd_S_value 9 = .ok (.ifCond .eq 15, 3) := by decide +kernel
theorem de_S_value_12 : decode cd_S_value 12 = .ok (.iload_n 2, 1) := by decide +kernel
theorem de_S_value_13 : decode cd_S_value 13 = .ok (.i2l, 1) := by decide +kernel
theorem de_S_value_14 : decode cd_S_value 14 = .ok (.lconst 0, 1) := by decide +kernel
theorem de_S_value_15 : decode cd_S_value 15 = .ok (.ldc2_w 151, 3) := by decide +kernel
theorem de_S_value_18 : decode cd_S_value 18 = .ok (.invokestatic 78, 3) := by decide +kernel
theorem de_S_value_21 : decode cd_S_value 21 = .ok (.ifCond .ne 13, 3) := by decide +kernel
theorem de_S_value_24 : decode cd_S_value 24 = .ok (.new 85, 3) := by decide +kernel
theorem de_S_value_27 : decode cd_S_value 27 = .ok (.dup, 1) := by decide +kernel
theorem de_S_value_28 : decode cd_S_value 28 = .ok (.ldc 153, 2) := by decide +kernel
theorem de_S_value_30 : decode cd_S_value 30 = .ok (.invokespecial 89, 3) := by decide +kernel
theorem de_S_value_33 : decode cd_S_value 33 = .ok (.athrow, 1) := by decide +kernel
theorem de_S_value_34 : decode cd_S_value 34 = .ok (.aload_n 0, 1) := by decide +kernel
theorem de_S_value_35 : decode cd_S_value 35 = .ok (.invokevirtual 155, 3) := by decide +kernel
theorem de_S_value_38 : decode cd_S_value 38 = .ok (.aload_n 0, 1) := by decide +kernel
theorem de_S_value_39 : decode cd_S_value 39 = .ok (.iload_n 1, 1) := by decide +kernel
theorem de_S_value_40 : decode cd_S_value 40 = .ok (.invokevirtual 158, 3) := by decide +kernel
theorem de_S_value_43 : decode cd_S_value 43 = .ok (.ifCond .eq 13, 3) := by decide +kernel
theorem de_S_value_46 : decode cd_S_value 46 = .ok (.new 162, 3) := by decide +kernel
theorem de_S_value_49 : decode cd_S_value 49 = .ok (.dup, 1) := by decide +kernel
theorem de_S_value_50 : decode cd_S_value 50 = .ok (.ldc 164, 2) := by decide +kernel
theorem de_S_value_52 : decode cd_S_value 52 = .ok (.invokespecial 166, 3) := by decide +kernel
theorem de_S_value_55 : decode cd_S_value 55 = .ok (.athrow, 1) := by decide +kernel
theorem de_S_value_56 : decode cd_S_value 56 = .ok (.aload_n 0, 1) := by decide +kernel
theorem de_S_value_57 : decode cd_S_value 57 = .ok (.iload_n 1, 1) := by decide +kernel
theorem de_S_value_58 : decode cd_S_value 58 = .ok (.invokevirtual 167, 3) := by decide +kernel
theorem de_S_value_61 : decode cd_S_value 61 = .ok (.iload_n 2, 1) := by decide +kernel
theorem de_S_value_62 : decode cd_S_value 62 = .ok (.ifCond .ne 11, 3) := by decide +kernel
theorem de_S_value_65 : decode cd_S_value 65 = .ok (.aload_n 0, 1) := by decide +kernel
theorem de_S_value_66 : decode cd_S_value 66 = .ok (.getfield 61, 3) := by decide +kernel
theorem de_S_value_69 : decode cd_S_value 69 = .ok (.invokevirtual 171, 3) := by decide +kernel
theorem de_S_value_72 : decode cd_S_value 72 = .ok (.lreturn, 1) := by decide +kernel
theorem de_S_value_73 : decode cd_S_value 73 = .ok (.aload_n 0, 1) := by decide +kernel
theorem de_S_value_74 : decode cd_S_value 74 = .ok (.getfield 61, 3) := by decide +kernel
theorem de_S_value_77 : decode cd_S_value 77 = .ok (.invokevirtual 174, 3) := by decide +kernel
theorem de_S_value_80 : decode cd_S_value 80 = .ok (.iload_n 2, 1) := by decide +kernel
theorem de_S_value_81 : decode cd_S_value 81 = .ok (.iconst 1, 1) := by decide +kernel
theorem de_S_value_82 : decode cd_S_value 82 = .ok (.if_icmp .ne 13, 3) := by decide +kernel
theorem de_S_value_85 : decode cd_S_value 85 = .ok (.aload_n 0, 1) := by decide +kernel
theorem de_S_value_86 : decode cd_S_value 86 = .ok (.getfield 61, 3) := by decide +kernel
theorem de_S_value_89 : decode cd_S_value 89 = .ok (.getfield 177, 3) := by decide +kernel
theorem de_S_value_92 : decode cd_S_value 92 = .ok (.goto 10, 3) := by decide +kernel
theorem de_S_value_95 : decode cd_S_value 95 = .ok (.aload_n 0, 1) := by decide +kernel
theorem de_S_value_96 : decode cd_S_value 96 = .ok (.getfield 61, 3) := by decide +kernel
theorem de_S_value_99 : decode cd_S_value 99 = .ok (.getfield 180, 3) := by decide +kernel
theorem de_S_value_102 : decode cd_S_value 102 = .ok (.lreturn, 1) := by decide +kernel
abbrev cd_F_reduce : ByteArray := prog_3_method_5_code
abbrev yn_F_reduce : MethodName := ⟨"StabilitySums$Fraction", "reduce", "()V"⟩
theorem de_F_reduce_0 : decode cd_F_reduce 0 = .ok (.aload_n 0, 1) := by decide +kernel
theorem de_F_reduce_1 : decode cd_F_reduce 1 = .ok (.getfield 7, 3) := by decide +kernel
theorem de_F_reduce_4 : decode cd_F_reduce 4 = .ok (.invokestatic 22, 3) := by decide +kernel
theorem de_F_reduce_7 : decode cd_F_reduce 7 = .ok (.aload_n 0, 1) := by decide +kernel
theorem de_F_reduce_8 : decode cd_F_reduce 8 = .ok (.getfield 13, 3) := by decide +kernel
theorem de_F_reduce_11 : decode cd_F_reduce 11 = .ok (.invokestatic 28, 3) := by decide +kernel
theorem de_F_reduce_14 : decode cd_F_reduce 14 = .ok (.lstore_n 1, 1) := by decide +kernel
theorem de_F_reduce_15 : decode cd_F_reduce 15 = .ok (.lload_n 1, 1) := by decide +kernel
theorem de_F_reduce_16 : decode cd_F_reduce 16 = .ok (.lconst 1, 1) := by decide +kernel
theorem de_F_reduce_17 : decode cd_F_reduce 17 = .ok (.lcmp, 1) := by decide +kernel
theorem de_F_reduce_18 : decode cd_F_reduce 18 = .ok (.ifCond .le 23, 3) := by decide +kernel
theorem de_F_reduce_21 : decode cd_F_reduce 21 = .ok (.aload_n 0, 1) := by decide +kernel
theorem de_F_reduce_22 : decode cd_F_reduce 22 = .ok (.dup, 1) := by decide +kernel
theorem de_F_reduce_23 : decode cd_F_reduce 23 = .ok (.getfield 7, 3) := by decide +kernel
theorem de_F_reduce_26 : decode cd_F_reduce 26 = .ok (.lload_n 1, 1) := by decide +kernel
theorem de_F_reduce_27 : decode cd_F_reduce 27 = .ok (.ldiv, 1) := by decide +kernel
theorem de_F_reduce_28 : decode cd_F_reduce 28 = .ok (.putfield 7, 3) := by decide +kernel
theorem de_F_reduce_31 : decode cd_F_reduce 31 = .ok (.aload_n 0, 1) := by decide +kernel
theorem de_F_reduce_32 : decode cd_F_reduce 32 = .ok (.dup, 1) := by decide +kernel
theorem de_F_reduce_33 : decode cd_F_reduce 33 = .ok (.getfield 13, 3) := by decide +kernel
theorem de_F_reduce_36 : decode cd_F_reduce 36 = .ok (.lload_n 1, 1) := by decide +kernel
theorem de_F_reduce_37 : decode cd_F_reduce 37 = .ok (.ldiv, 1) := by decide +kernel
theorem de_F_reduce_38 : decode cd_F_reduce 38 = .ok (.putfield 13, 3) := by decide +kernel
theorem de_F_reduce_41 : decode cd_F_reduce 41 = .ok (.return_, 1) := by decide +kernel
abbrev cd_F_commonDivisor : ByteArray := prog_3_method_6_code
abbrev yn_F_commonDivisor : MethodName := ⟨"StabilitySums$Fraction", "commonDivisor", "(JJ)J"⟩
theorem de_F_commonDivisor_0 : decode cd_F_commonDivisor 0 = .ok (.lload_n 0, 1) := by decide +kernel
theorem de_F_commonDivisor_1 : decode cd_F_commonDivisor 1 = .ok (.lstore 4, 2) := by decide +kernel
theorem de_F_commonDivisor_3 : decode cd_F_commonDivisor 3 = .ok (.lload_n 2, 1) := by decide +kernel
theorem de_F_commonDivisor_4 : decode cd_F_commonDivisor 4 = .ok (.lstore 6, 2) := by decide +kernel
theorem de_F_commonDivisor_6 : decode cd_F_commonDivisor 6 = .ok (.iconst 0, 1) := by decide +kernel
theorem de_F_commonDivisor_7 : decode cd_F_commonDivisor 7 = .ok (.istore 8, 2) := by decide +kernel
theorem de_F_commonDivisor_9 : decode cd_F_commonDivisor 9 = .ok (.iload 8, 2) := by decide +kernel
theorem de_F_commonDivisor_11 : decode cd_F_commonDivisor 11 = .ok (.sipush 1000, 3) := by decide +kernel
theorem de_F_commonDivisor_14 : decode cd_F_commonDivisor 14 = .ok (.if_icmp .ge 31, 3) := by decide +kernel
theorem de_F_commonDivisor_17 : decode cd_F_commonDivisor 17 = .ok (.lload 6, 2) := by decide +kernel
theorem de_F_commonDivisor_19 : decode cd_F_commonDivisor 19 = .ok (.lconst 0, 1) := by decide +kernel
theorem de_F_commonDivisor_20 : decode cd_F_commonDivisor 20 = .ok (.lcmp, 1) := by decide +kernel
theorem de_F_commonDivisor_21 : decode cd_F_commonDivisor 21 = .ok (.ifCond .eq 24, 3) := by decide +kernel
theorem de_F_commonDivisor_24 : decode cd_F_commonDivisor 24 = .ok (.lload 4, 2) := by decide +kernel
theorem de_F_commonDivisor_26 : decode cd_F_commonDivisor 26 = .ok (.lload 6, 2) := by decide +kernel
theorem de_F_commonDivisor_28 : decode cd_F_commonDivisor 28 = .ok (.lrem, 1) := by decide +kernel
theorem de_F_commonDivisor_29 : decode cd_F_commonDivisor 29 = .ok (.lstore 9, 2) := by decide +kernel
theorem de_F_commonDivisor_31 : decode cd_F_commonDivisor 31 = .ok (.lload 6, 2) := by decide +kernel
theorem de_F_commonDivisor_33 : decode cd_F_commonDivisor 33 = .ok (.lstore 4, 2) := by decide +kernel
theorem de_F_commonDivisor_35 : decode cd_F_commonDivisor 35 = .ok (.lload 9, 2) := by decide +kernel
theorem de_F_commonDivisor_37 : decode cd_F_commonDivisor 37 = .ok (.lstore 6, 2) := by decide +kernel
theorem de_F_commonDivisor_39 : decode cd_F_commonDivisor 39 = .ok (.iinc 8 1, 3) := by decide +kernel
theorem de_F_commonDivisor_42 : decode cd_F_commonDivisor 42 = .ok (.goto (-33), 3) := by decide +kernel
theorem de_F_commonDivisor_45 : decode cd_F_commonDivisor 45 = .ok (.lload 4, 2) := by decide +kernel
theorem de_F_commonDivisor_47 : decode cd_F_commonDivisor 47 = .ok (.lreturn, 1) := by decide +kernel
abbrev cd_A_shear : ByteArray := method_8_code
abbrev yn_A_shear : MethodName := ⟨"StabilitySumsLaw", "shear", "(LStabilitySums;J[J)I"⟩
theorem de_A_shear_0 : decode cd_A_shear 0 = .ok (.aload_n 3, 1) := by decide +kernel
theorem de_A_shear_1 : decode cd_A_shear 1 = .ok (.iconst 0, 1) := by decide +kernel
theorem de_A_shear_2 : decode cd_A_shear 2 = .ok (.aload_n 0, 1) := by decide +kernel
theorem de_A_shear_3 : decode cd_A_shear 3 = .ok (.lload_n 1, 1) := by decide +kernel
theorem de_A_shear_4 : decode cd_A_shear 4 = .ok (.invokevirtual 37, 3) := by decide +kernel
theorem de_A_shear_7 : decode cd_A_shear 7 = .ok (.lastore, 1) := by decide +kernel
theorem de_A_shear_8 : decode cd_A_shear 8 = .ok (.goto 7, 3) := by decide +kernel
theorem de_A_shear_11 : decode cd_A_shear 11 = .ok (.astore 4, 2) := by decide +kernel
theorem de_A_shear_13 : decode cd_A_shear 13 = .ok (.iconst 1, 1) := by decide +kernel
theorem de_A_shear_14 : decode cd_A_shear 14 = .ok (.ireturn, 1) := by decide +kernel
theorem de_A_shear_15 : decode cd_A_shear 15 = .ok (.iconst 0, 1) := by decide +kernel
theorem de_A_shear_16 : decode cd_A_shear 16 = .ok (.ireturn, 1) := by decide +kernel
abbrev cd_S_shear : ByteArray := prog_1_method_8_code
abbrev yn_S_shear : MethodName := ⟨"StabilitySums", "shear", "(J)J"⟩
theorem de_S_shear_0 : decode cd_S_shear 0 = .ok (.lload_n 1, 1) := by decide +kernel
theorem de_S_shear_1 : decode cd_S_shear 1 = .ok (.invokestatic 133, 3) := by decide +kernel
theorem de_S_shear_4 : decode cd_S_shear 4 = .ok (.ifCond .ne 13, 3) := by decide +kernel
theorem de_S_shear_7 : decode cd_S_shear 7 = .ok (.new 85, 3) := by decide +kernel
theorem de_S_shear_10 : decode cd_S_shear 10 = .ok (.dup, 1) := by decide +kernel
theorem de_S_shear_11 : decode cd_S_shear 11 = .ok (.ldc 183, 2) := by decide +kernel
theorem de_S_shear_13 : decode cd_S_shear 13 = .ok (.invokespecial 89, 3) := by decide +kernel
theorem de_S_shear_16 : decode cd_S_shear 16 = .ok (.athrow, 1) := by decide +kernel
theorem de_S_shear_17 : decode cd_S_shear 17 = .ok (.aload_n 0, 1) := by decide +kernel
theorem de_S_shear_18 : decode cd_S_shear 18 = .ok (.getfield 54, 3) := by decide +kernel
theorem de_S_shear_21 : decode cd_S_shear 21 = .ok (.getfield 185, 3) := by decide +kernel
theorem de_S_shear_24 : decode cd_S_shear 24 = .ok (.iconst 0, 1) := by decide +kernel
theorem de_S_shear_25 : decode cd_S_shear 25 = .ok (.lload_n 1, 1) := by decide +kernel
theorem de_S_shear_26 : decode cd_S_shear 26 = .ok (.lastore, 1) := by decide +kernel
theorem de_S_shear_27 : decode cd_S_shear 27 = .ok (.aload_n 0, 1) := by decide +kernel
theorem de_S_shear_28 : decode cd_S_shear 28 = .ok (.invokevirtual 155, 3) := by decide +kernel
theorem de_S_shear_31 : decode cd_S_shear 31 = .ok (.aload_n 0, 1) := by decide +kernel
theorem de_S_shear_32 : decode cd_S_shear 32 = .ok (.iconst 0, 1) := by decide +kernel
theorem de_S_shear_33 : decode cd_S_shear 33 = .ok (.invokevirtual 188, 3) := by decide +kernel
theorem de_S_shear_36 : decode cd_S_shear 36 = .ok (.lreturn, 1) := by decide +kernel
abbrev cd_A_bending : ByteArray := method_9_code
abbrev yn_A_bending : MethodName := ⟨"StabilitySumsLaw", "bending", "(LStabilitySums;J[J)I"⟩
theorem de_A_bending_0 : decode cd_A_bending 0 = .ok (.aload_n 3, 1) := by decide +kernel
theorem de_A_bending_1 : decode cd_A_bending 1 = .ok (.iconst 0, 1) := by decide +kernel
theorem de_A_bending_2 : decode cd_A_bending 2 = .ok (.aload_n 0, 1) := by decide +kernel
theorem de_A_bending_3 : decode cd_A_bending 3 = .ok (.lload_n 1, 1) := by decide +kernel
theorem de_A_bending_4 : decode cd_A_bending 4 = .ok (.invokevirtual 41, 3) := by decide +kernel
theorem de_A_bending_7 : decode cd_A_bending 7 = .ok (.lastore, 1) := by decide +kernel
theorem de_A_bending_8 : decode cd_A_bending 8 = .ok (.goto 7, 3) := by decide +kernel
theorem de_A_bending_11 : decode cd_A_bending 11 = .ok (.astore 4, 2) := by decide +kernel
theorem de_A_bending_13 : decode cd_A_bending 13 = .ok (.iconst 1, 1) := by decide +kernel
theorem de_A_bending_14 : decode cd_A_bending 14 = .ok (.ireturn, 1) := by decide +kernel
theorem de_A_bending_15 : decode cd_A_bending 15 = .ok (.iconst 0, 1) := by decide +kernel
theorem de_A_bending_16 : decode cd_A_bending 16 = .ok (.ireturn, 1) := by decide +kernel
abbrev cd_S_bending : ByteArray := prog_1_method_9_code
abbrev yn_S_bending : MethodName := ⟨"StabilitySums", "bending", "(J)J"⟩
theorem de_S_bending_0 : decode cd_S_bending 0 = .ok (.lload_n 1, 1) := by decide +kernel
theorem de_S_bending_1 : decode cd_S_bending 1 = .ok (.invokestatic 133, 3) := by decide +kernel
theorem de_S_bending_4 : decode cd_S_bending 4 = .ok (.ifCond .ne 13, 3) := by decide +kernel
theorem de_S_bending_7 : decode cd_S_bending 7 = .ok (.new 85, 3) := by decide +kernel
theorem de_S_bending_10 : decode cd_S_bending 10 = .ok (.dup, 1) := by decide +kernel
theorem de_S_bending_11 : decode cd_S_bending 11 = .ok (.ldc 183, 2) := by decide +kernel
theorem de_S_bending_13 : decode cd_S_bending 13 = .ok (.invokespecial 89, 3) := by decide +kernel
theorem de_S_bending_16 : decode cd_S_bending 16 = .ok (.athrow, 1) := by decide +kernel
theorem de_S_bending_17 : decode cd_S_bending 17 = .ok (.aload_n 0, 1) := by decide +kernel
theorem de_S_bending_18 : decode cd_S_bending 18 = .ok (.getfield 54, 3) := by decide +kernel
theorem de_S_bending_21 : decode cd_S_bending 21 = .ok (.getfield 185, 3) := by decide +kernel
theorem de_S_bending_24 : decode cd_S_bending 24 = .ok (.iconst 0, 1) := by decide +kernel
theorem de_S_bending_25 : decode cd_S_bending 25 = .ok (.lload_n 1, 1) := by decide +kernel
theorem de_S_bending_26 : decode cd_S_bending 26 = .ok (.lastore, 1) := by decide +kernel
theorem de_S_bending_27 : decode cd_S_bending 27 = .ok (.aload_n 0, 1) := by decide +kernel
theorem de_S_bending_28 : decode cd_S_bending 28 = .ok (.invokevirtual 155, 3) := by decide +kernel
theorem de_S_bending_31 : decode cd_S_bending 31 = .ok (.aload_n 0, 1) := by decide +kernel
theorem de_S_bending_32 : decode cd_S_bending 32 = .ok (.iconst 0, 1) := by decide +kernel
theorem de_S_bending_33 : decode cd_S_bending 33 = .ok (.invokevirtual 192, 3) := by decide +kernel
theorem de_S_bending_36 : decode cd_S_bending 36 = .ok (.lreturn, 1) := by decide +kernel
abbrev cd_A_limit : ByteArray := method_10_code
abbrev yn_A_limit : MethodName := ⟨"StabilitySumsLaw", "limit", "(LStabilitySums;IJJJ[J)I"⟩
theorem de_A_limit_0 : decode cd_A_limit 0 = .ok (.aload 8, 2) := by decide +kernel
theorem de_A_limit_2 : decode cd_A_limit 2 = .ok (.iconst 0, 1) := by decide +kernel
theorem de_A_limit_3 : decode cd_A_limit 3 = .ok (.aload_n 0, 1) := by decide +kernel
theorem de_A_limit_4 : decode cd_A_limit 4 = .ok (.iload_n 1, 1) := by decide +kernel
theorem de_A_limit_5 : decode cd_A_limit 5 = .ok (.lload_n 2, 1) := by decide +kernel
theorem de_A_limit_6 : decode cd_A_limit 6 = .ok (.lload 4, 2) := by decide +kernel
theorem de_A_limit_8 : decode cd_A_limit 8 = .ok (.lload 6, 2) := by decide +kernel
theorem de_A_limit_10 : decode cd_A_limit 10 = .ok (.invokevirtual 44, 3) := by decide +kernel
theorem de_A_limit_13 : decode cd_A_limit 13 = .ok (.i2l, 1) := by decide +kernel
theorem de_A_limit_14 : decode cd_A_limit 14 = .ok (.lastore, 1) := by decide +kernel
theorem de_A_limit_15 : decode cd_A_limit 15 = .ok (.goto 11, 3) := by decide +kernel
theorem de_A_limit_18 : decode cd_A_limit 18 = .ok (.astore 9, 2) := by decide +kernel
theorem de_A_limit_20 : decode cd_A_limit 20 = .ok (.iconst 1, 1) := by decide +kernel
theorem de_A_limit_21 : decode cd_A_limit 21 = .ok (.ireturn, 1) := by decide +kernel
theorem de_A_limit_22 : decode cd_A_limit 22 = .ok (.astore 9, 2) := by decide +kernel
theorem de_A_limit_24 : decode cd_A_limit 24 = .ok (.iconst 2, 1) := by decide +kernel
theorem de_A_limit_25 : decode cd_A_limit 25 = .ok (.ireturn, 1) := by decide +kernel
theorem de_A_limit_26 : decode cd_A_limit 26 = .ok (.iconst 0, 1) := by decide +kernel
theorem de_A_limit_27 : decode cd_A_limit 27 = .ok (.ireturn, 1) := by decide +kernel
abbrev cd_S_limit : ByteArray := prog_1_method_10_code
abbrev yn_S_limit : MethodName := ⟨"StabilitySums", "limit", "(IJJJ)I"⟩
theorem de_S_limit_0 : decode cd_S_limit 0 = .ok (.iload_n 1, 1) := by decide +kernel
theorem de_S_limit_1 : decode cd_S_limit 1 = .ok (.i2l, 1) := by decide +kernel
theorem de_S_limit_2 : decode cd_S_limit 2 = .ok (.lconst 0, 1) := by decide +kernel
theorem de_S_limit_3 : decode cd_S_limit 3 = .ok (.ldc2_w 195, 3) := by decide +kernel
theorem de_S_limit_6 : decode cd_S_limit 6 = .ok (.invokestatic 78, 3) := by decide +kernel
theorem de_S_limit_9 : decode cd_S_limit 9 = .ok (.ifCond .eq 36, 3) := by decide +kernel
theorem de_S_limit_12 : decode cd_S_limit 12 = .ok (.lload 4, 2) := by decide +kernel
theorem de_S_limit_14 : decode cd_S_limit 14 = .ok (.lload 6, 2) := by decide +kernel
theorem de_S_limit_16 : decode cd_S_limit 16 = .ok (.lcmp, 1) := by decide +kernel
theorem de_S_limit_17 : decode cd_S_limit 17 = .ok (.ifCond .gt 28, 3) := by decide +kernel
theorem de_S_limit_20 : decode cd_S_limit 20 = .ok (.lload 4, 2) := by decide +kernel
theorem de_S_limit_22 : decode cd_S_limit 22 = .ok (.ldc2_w 197, 3) := by decide +kernel
theorem de_S_limit_25 : decode cd_S_limit 25 = .ok (.lcmp, 1) := by decide +kernel
theorem de_S_limit_26 : decode cd_S_limit 26 = .ok (.ifCond .lt 19, 3) := by decide +kernel
theorem de_S_limit_29 : decode cd_S_limit 29 = .ok (.lload 6, 2) := by decide +kernel
theorem de_S_limit_31 : decode cd_S_limit 31 = .ok (.ldc2_w 199, 3) := by decide +kernel
theorem de_S_limit_34 : decode cd_S_limit 34 = .ok (.lcmp, 1) := by decide +kernel
theorem de_S_limit_35 : decode cd_S_limit 35 = .ok (.ifCond .gt 10, 3) := by decide +kernel
theorem de_S_limit_38 : decode cd_S_limit 38 = .ok (.lload_n 2, 1) := by decide +kernel
theorem de_S_limit_39 : decode cd_S_limit 39 = .ok (.invokestatic 133, 3) := by decide +kernel
theorem de_S_limit_42 : decode cd_S_limit 42 = .ok (.ifCond .ne 13, 3) := by decide +kernel
theorem de_S_limit_45 : decode cd_S_limit 45 = .ok (.new 85, 3) := by decide +kernel
theorem de_S_limit_48 : decode cd_S_limit 48 = .ok (.dup, 1) := by decide +kernel
theorem de_S_limit_49 : decode cd_S_limit 49 = .ok (.ldc 201, 2) := by decide +kernel
theorem de_S_limit_51 : decode cd_S_limit 51 = .ok (.invokespecial 89, 3) := by decide +kernel
theorem de_S_limit_54 : decode cd_S_limit 54 = .ok (.athrow, 1) := by decide +kernel
theorem de_S_limit_55 : decode cd_S_limit 55 = .ok (.aload_n 0, 1) := by decide +kernel
theorem de_S_limit_56 : decode cd_S_limit 56 = .ok (.getfield 33, 3) := by decide +kernel
theorem de_S_limit_59 : decode cd_S_limit 59 = .ok (.getfield 203, 3) := by decide +kernel
theorem de_S_limit_62 : decode cd_S_limit 62 = .ok (.bipush 10, 2) := by decide +kernel
theorem de_S_limit_64 : decode cd_S_limit 64 = .ok (.if_icmp .lt 13, 3) := by decide +kernel
theorem de_S_limit_67 : decode cd_S_limit 67 = .ok (.new 96, 3) := by decide +kernel
theorem de_S_limit_70 : decode cd_S_limit 70 = .ok (.dup, 1) := by decide +kernel
theorem de_S_limit_71 : decode cd_S_limit 71 = .ok (.ldc 204, 2) := by decide +kernel
theorem de_S_limit_73 : decode cd_S_limit 73 = .ok (.invokespecial 100, 3) := by decide +kernel
theorem de_S_limit_76 : decode cd_S_limit 76 = .ok (.athrow, 1) := by decide +kernel
theorem de_S_limit_77 : decode cd_S_limit 77 = .ok (.aload_n 0, 1) := by decide +kernel
theorem de_S_limit_78 : decode cd_S_limit 78 = .ok (.getfield 33, 3) := by decide +kernel
theorem de_S_limit_81 : decode cd_S_limit 81 = .ok (.iload_n 1, 1) := by decide +kernel
theorem de_S_limit_82 : decode cd_S_limit 82 = .ok (.lload 4, 2) := by decide +kernel
theorem de_S_limit_84 : decode cd_S_limit 84 = .ok (.lload 6, 2) := by decide +kernel
theorem de_S_limit_86 : decode cd_S_limit 86 = .ok (.invokevirtual 206, 3) := by decide +kernel
theorem de_S_limit_89 : decode cd_S_limit 89 = .ok (.istore 8, 2) := by decide +kernel
theorem de_S_limit_91 : decode cd_S_limit 91 = .ok (.aload_n 0, 1) := by decide +kernel
theorem de_S_limit_92 : decode cd_S_limit 92 = .ok (.getfield 54, 3) := by decide +kernel
theorem de_S_limit_95 : decode cd_S_limit 95 = .ok (.getfield 185, 3) := by decide +kernel
theorem de_S_limit_98 : decode cd_S_limit 98 = .ok (.iload 8, 2) := by decide +kernel
theorem de_S_limit_100 : decode cd_S_limit 100 = .ok (.lload_n 2, 1) := by decide +kernel
theorem de_S_limit_101 : decode cd_S_limit 101 = .ok (.lastore, 1) := by decide +kernel
theorem de_S_limit_102 : decode cd_S_limit 102 = .ok (.iload 8, 2) := by decide +kernel
theorem de_S_limit_104 : decode cd_S_limit 104 = .ok (.ireturn, 1) := by decide +kernel
abbrev cd_L_append : ByteArray := prog_4_method_2_code
abbrev yn_L_append : MethodName := ⟨"StabilitySums$Limits", "append", "(IJJ)I"⟩
theorem de_L_append_0 : decode cd_L_append 0 = .ok (.aload_n 0, 1) := by decide +kernel
theorem de_L_append_1 : decode cd_L_append 1 = .ok (.dup, 1) := by decide +kernel
theorem de_L_append_2 : decode cd_L_append 2 = .ok (.getfield 22, 3) := by decide +kernel
theorem de_L_append_5 : decode cd_L_append 5 = .ok (.iconst 1, 1) := by decide +kernel
theorem de_L_append_6 : decode cd_L_append 6 = .ok (.iadd, 1) := by decide +kernel
theorem de_L_append_7 : decode cd_L_append 7 = .ok (.putfield 22, 3) := by decide +kernel
theorem de_L_append_10 : decode cd_L_append 10 = .ok (.aload_n 0, 1) := by decide +kernel
theorem de_L_append_11 : decode cd_L_append 11 = .ok (.getfield 9, 3) := by decide +kernel
theorem de_L_append_14 : decode cd_L_append 14 = .ok (.aload_n 0, 1) := by decide +kernel
theorem de_L_append_15 : decode cd_L_append 15 = .ok (.getfield 22, 3) := by decide +kernel
theorem de_L_append_18 : decode cd_L_append 18 = .ok (.iload_n 1, 1) := by decide +kernel
theorem de_L_append_19 : decode cd_L_append 19 = .ok (.iastore, 1) := by decide +kernel
theorem de_L_append_20 : decode cd_L_append 20 = .ok (.aload_n 0, 1) := by decide +kernel
theorem de_L_append_21 : decode cd_L_append 21 = .ok (.getfield 15, 3) := by decide +kernel
theorem de_L_append_24 : decode cd_L_append 24 = .ok (.aload_n 0, 1) := by decide +kernel
theorem de_L_append_25 : decode cd_L_append 25 = .ok (.getfield 22, 3) := by decide +kernel
theorem de_L_append_28 : decode cd_L_append 28 = .ok (.lload_n 2, 1) := by decide +kernel
theorem de_L_append_29 : decode cd_L_append 29 = .ok (.lastore, 1) := by decide +kernel
theorem de_L_append_30 : decode cd_L_append 30 = .ok (.aload_n 0, 1) := by decide +kernel
theorem de_L_append_31 : decode cd_L_append 31 = .ok (.getfield 19, 3) := by decide +kernel
theorem de_L_append_34 : decode cd_L_append 34 = .ok (.aload_n 0, 1) := by decide +kernel
theorem de_L_append_35 : decode cd_L_append 35 = .ok (.getfield 22, 3) := by decide +kernel
theorem de_L_append_38 : decode cd_L_append 38 = .ok (.lload 4, 2) := by decide +kernel
theorem de_L_append_40 : decode cd_L_append 40 = .ok (.lastore, 1) := by decide +kernel
theorem de_L_append_41 : decode cd_L_append 41 = .ok (.aload_n 0, 1) := by decide +kernel
theorem de_L_append_42 : decode cd_L_append 42 = .ok (.getfield 22, 3) := by decide +kernel
theorem de_L_append_45 : decode cd_L_append 45 = .ok (.ireturn, 1) := by decide +kernel
abbrev cd_A_fill : ByteArray := method_11_code
abbrev yn_A_fill : MethodName := ⟨"StabilitySumsLaw", "fill", "(LStabilitySums;I[J)I"⟩
theorem de_A_fill_0 : decode cd_A_fill 0 = .ok (.aload_n 2, 1) := by decide +kernel
theorem de_A_fill_1 : decode cd_A_fill 1 = .ok (.iconst 0, 1) := by decide +kernel
theorem de_A_fill_2 : decode cd_A_fill 2 = .ok (.aload_n 0, 1) := by decide +kernel
theorem de_A_fill_3 : decode cd_A_fill 3 = .ok (.iload_n 1, 1) := by decide +kernel
theorem de_A_fill_4 : decode cd_A_fill 4 = .ok (.invokevirtual 48, 3) := by decide +kernel
theorem de_A_fill_7 : decode cd_A_fill 7 = .ok (.lastore, 1) := by decide +kernel
theorem de_A_fill_8 : decode cd_A_fill 8 = .ok (.goto 6, 3) := by decide +kernel
theorem de_A_fill_11 : decode cd_A_fill 11 = .ok (.astore_n 3, 1) := by decide +kernel
theorem de_A_fill_12 : decode cd_A_fill 12 = .ok (.iconst 1, 1) := by decide +kernel
theorem de_A_fill_13 : decode cd_A_fill 13 = .ok (.ireturn, 1) := by decide +kernel
theorem de_A_fill_14 : decode cd_A_fill 14 = .ok (.iconst 0, 1) := by decide +kernel
theorem de_A_fill_15 : decode cd_A_fill 15 = .ok (.ireturn, 1) := by decide +kernel
abbrev cd_S_fill : ByteArray := prog_1_method_13_code
abbrev yn_S_fill : MethodName := ⟨"StabilitySums", "fill", "(I)J"⟩
theorem de_S_fill_0 : decode cd_S_fill 0 = .ok (.iload_n 1, 1) := by decide +kernel
theorem de_S_fill_1 : decode cd_S_fill 1 = .ok (.i2l, 1) := by decide +kernel
theorem de_S_fill_2 : decode cd_S_fill 2 = .ok (.lconst 0, 1) := by decide +kernel
theorem de_S_fill_3 : decode cd_S_fill 3 = .ok (.aload_n 0, 1) := by decide +kernel
theorem de_S_fill_4 : decode cd_S_fill 4 = .ok (.getfield 19, 3) := by decide +kernel
theorem de_S_fill_7 : decode cd_S_fill 7 = .ok (.getfield 113, 3) := by decide +kernel
theorem de_S_fill_10 : decode cd_S_fill 10 = .ok (.i2l, 1) := by decide +kernel
theorem de_S_fill_11 : decode cd_S_fill 11 = .ok (.lconst 1, 1) := by decide +kernel
theorem de_S_fill_12 : decode cd_S_fill 12 = .ok (.lsub, 1) := by decide +kernel
theorem de_S_fill_13 : decode cd_S_fill 13 = .ok (.invokestatic 78, 3) := by decide +kernel
theorem de_S_fill_16 : decode cd_S_fill 16 = .ok (.ifCond .ne 13, 3) := by decide +kernel
theorem de_S_fill_19 : decode cd_S_fill 19 = .ok (.new 119, 3) := by decide +kernel
theorem de_S_fill_22 : decode cd_S_fill 22 = .ok (.dup, 1) := by decide +kernel
theorem de_S_fill_23 : decode cd_S_fill 23 = .ok (.ldc 121, 2) := by decide +kernel
theorem de_S_fill_25 : decode cd_S_fill 25 = .ok (.invokespecial 123, 3) := by decide +kernel
theorem de_S_fill_28 : decode cd_S_fill 28 = .ok (.athrow, 1) := by decide +kernel
theorem de_S_fill_29 : decode cd_S_fill 29 = .ok (.aload_n 0, 1) := by decide +kernel
theorem de_S_fill_30 : decode cd_S_fill 30 = .ok (.invokevirtual 213, 3) := by decide +kernel
theorem de_S_fill_33 : decode cd_S_fill 33 = .ok (.ldc2_w 216, 3) := by decide +kernel
theorem de_S_fill_36 : decode cd_S_fill 36 = .ok (.lcmp, 1) := by decide +kernel
theorem de_S_fill_37 : decode cd_S_fill 37 = .ok (.ifCond .ne 9, 3) := by decide +kernel
theorem de_S_fill_40 : decode cd_S_fill 40 = .ok (.ldc2_w 216, 3) := by decide +kernel
theorem de_S_fill_43 : decode cd_S_fill 43 = .ok (.goto 12, 3) := by decide +kernel
theorem de_S_fill_46 : decode cd_S_fill 46 = .ok (.aload_n 0, 1) := by decide +kernel
theorem de_S_fill_47 : decode cd_S_fill 47 = .ok (.getfield 19, 3) := by decide +kernel
theorem de_S_fill_50 : decode cd_S_fill 50 = .ok (.getfield 218, 3) := by decide +kernel
theorem de_S_fill_53 : decode cd_S_fill 53 = .ok (.iload_n 1, 1) := by decide +kernel
theorem de_S_fill_54 : decode cd_S_fill 54 = .ok (.laload, 1) := by decide +kernel
theorem de_S_fill_55 : decode cd_S_fill 55 = .ok (.lreturn, 1) := by decide +kernel
abbrev cd_A_plan : ByteArray := method_12_code
abbrev yn_A_plan : MethodName := ⟨"StabilitySumsLaw", "plan", "(LStabilitySums;ZIJ[J)I"⟩
theorem de_A_plan_0 : decode cd_A_plan 0 = .ok (.aload 5, 2) := by decide +kernel
theorem de_A_plan_2 : decode cd_A_plan 2 = .ok (.iconst 0, 1) := by decide +kernel
theorem de_A_plan_3 : decode cd_A_plan 3 = .ok (.aload_n 0, 1) := by decide +kernel
theorem de_A_plan_4 : decode cd_A_plan 4 = .ok (.iload_n 1, 1) := by decide +kernel
theorem de_A_plan_5 : decode cd_A_plan 5 = .ok (.iload_n 2, 1) := by decide +kernel
theorem de_A_plan_6 : decode cd_A_plan 6 = .ok (.lload_n 3, 1) := by decide +kernel
theorem de_A_plan_7 : decode cd_A_plan 7 = .ok (.invokevirtual 52, 3) := by decide +kernel
theorem de_A_plan_10 : decode cd_A_plan 10 = .ok (.i2l, 1) := by decide +kernel
theorem de_A_plan_11 : decode cd_A_plan 11 = .ok (.lastore, 1) := by decide +kernel
theorem de_A_plan_12 : decode cd_A_plan 12 = .ok (.goto 15, 3) := by decide +kernel
theorem de_A_plan_15 : decode cd_A_plan 15 = .ok (.astore 6, 2) := by decide +kernel
theorem de_A_plan_17 : decode cd_A_plan 17 = .ok (.iconst 1, 1) := by decide +kernel
theorem de_A_plan_18 : decode cd_A_plan 18 = .ok (.ireturn, 1) := by decide +kernel
theorem de_A_plan_19 : decode cd_A_plan 19 = .ok (.astore 6, 2) := by decide +kernel
theorem de_A_plan_21 : decode cd_A_plan 21 = .ok (.iconst 2, 1) := by decide +kernel
theorem de_A_plan_22 : decode cd_A_plan 22 = .ok (.ireturn, 1) := by decide +kernel
theorem de_A_plan_23 : decode cd_A_plan 23 = .ok (.astore 6, 2) := by decide +kernel
theorem de_A_plan_25 : decode cd_A_plan 25 = .ok (.iconst 3, 1) := by decide +kernel
theorem de_A_plan_26 : decode cd_A_plan 26 = .ok (.ireturn, 1) := by decide +kernel
theorem de_A_plan_27 : decode cd_A_plan 27 = .ok (.iconst 0, 1) := by decide +kernel
theorem de_A_plan_28 : decode cd_A_plan 28 = .ok (.ireturn, 1) := by decide +kernel
abbrev cd_S_plan : ByteArray := prog_1_method_14_code
abbrev yn_S_plan : MethodName := ⟨"StabilitySums", "plan", "(ZIJ)I"⟩
theorem de_S_plan_0 : decode cd_S_plan 0 = .ok (.iload_n 1, 1) := by decide +kernel
theorem de_S_plan_1 : decode cd_S_plan 1 = .ok (.ifCond .eq 13, 3) := by decide +kernel
theorem de_S_plan_4 : decode cd_S_plan 4 = .ok (.aload_n 0, 1) := by decide +kernel
theorem de_S_plan_5 : decode cd_S_plan 5 = .ok (.getfield 19, 3) := by decide +kernel
theorem de_S_plan_8 : decode cd_S_plan 8 = .ok (.getfield 113, 3) := by decide +kernel
theorem de_S_plan_11 : decode cd_S_plan 11 = .ok (.goto 10, 3) := by decide +kernel
theorem de_S_plan_14 : decode cd_S_plan 14 = .ok (.aload_n 0, 1) := by decide +kernel
theorem de_S_plan_15 : decode cd_S_plan 15 = .ok (.getfield 10, 3) := by decide +kernel
theorem de_S_plan_18 : decode cd_S_plan 18 = .ok (.getfield 92, 3) := by decide +kernel
theorem de_S_plan_21 : decode cd_S_plan 21 = .ok (.istore 5, 2) := by decide +kernel
theorem de_S_plan_23 : decode cd_S_plan 23 = .ok (.iload_n 2, 1) := by decide +kernel
theorem de_S_plan_24 : decode cd_S_plan 24 = .ok (.i2l, 1) := by decide +kernel
theorem de_S_plan_25 : decode cd_S_plan 25 = .ok (.lconst 0, 1) := by decide +kernel
theorem de_S_plan_26 : decode cd_S_plan 26 = .ok (.iload 5, 2) := by decide +kernel
theorem de_S_plan_28 : decode cd_S_plan 28 = .ok (.i2l, 1) := by decide +kernel
theorem de_S_plan_29 : decode cd_S_plan 29 = .ok (.lconst 1, 1) := by decide +kernel
theorem de_S_plan_30 : decode cd_S_plan 30 = .ok (.lsub, 1) := by decide +kernel
theorem de_S_plan_31 : decode cd_S_plan 31 = .ok (.invokestatic 78, 3) := by decide +kernel
theorem de_S_plan_34 : decode cd_S_plan 34 = .ok (.ifCond .ne 13, 3) := by decide +kernel
theorem de_S_plan_37 : decode cd_S_plan 37 = .ok (.new 119, 3) := by decide +kernel
theorem de_S_plan_40 : decode cd_S_plan 40 = .ok (.dup, 1) := by decide +kernel
theorem de_S_plan_41 : decode cd_S_plan 41 = .ok (.ldc 221, 2) := by decide +kernel
theorem de_S_plan_43 : decode cd_S_plan 43 = .ok (.invokespecial 123, 3) := by decide +kernel
theorem de_S_plan_46 : decode cd_S_plan 46 = .ok (.athrow, 1) := by decide +kernel
theorem de_S_plan_47 : decode cd_S_plan 47 = .ok (.iload_n 1, 1) := by decide +kernel
theorem de_S_plan_48 : decode cd_S_plan 48 = .ok (.ifCond .eq 7, 3) := by decide +kernel
theorem de_S_plan_51 : decode cd_S_plan 51 = .ok (.lconst 0, 1) := by decide +kernel
theorem de_S_plan_52 : decode cd_S_plan 52 = .ok (.goto 6, 3) := by decide +kernel
theorem de_S_plan_55 : decode cd_S_plan 55 = .ok (.ldc2_w 74, 3) := by decide +kernel
theorem de_S_plan_58 : decode cd_S_plan 58 = .ok (.lstore 6, 2) := by decide +kernel
theorem de_S_plan_60 : decode cd_S_plan 60 = .ok (.iload_n 1, 1) := by decide +kernel
theorem de_S_plan_61 : decode cd_S_plan 61 = .ok (.ifCond .eq 15, 3) := by decide +kernel
theorem de_S_plan_64 : decode cd_S_plan 64 = .ok (.aload_n 0, 1) := by decide +kernel
theorem de_S_plan_65 : decode cd_S_plan 65 = .ok (.getfield 19, 3) := by decide +kernel
theorem de_S_plan_68 : decode cd_S_plan 68 = .ok (.getfield 124, 3) := by decide +kernel
theorem de_S_plan_71 : decode cd_S_plan 71 = .ok (.iload_n 2, 1) := by decide +kernel
theorem de_S_plan_72 : decode cd_S_plan 72 = .ok (.laload, 1) := by decide +kernel
theorem de_S_plan_73 : decode cd_S_plan 73 = .ok (.goto 6, 3) := by decide +kernel
theorem de_S_plan_76 : decode cd_S_plan 76 = .ok (.ldc2_w 76, 3) := by decide +kernel
theorem de_S_plan_79 : decode cd_S_plan 79 = .ok (.lstore 8, 2) := by decide +kernel
theorem de_S_plan_81 : decode cd_S_plan 81 = .ok (.lload_n 3, 1) := by decide +kernel
theorem de_S_plan_82 : decode cd_S_plan 82 = .ok (.lload 6, 2) := by decide +kernel
theorem de_S_plan_84 : decode cd_S_plan 84 = .ok (.lload 8, 2) := by decide +kernel
theorem de_S_plan_86 : decode cd_S_plan 86 = .ok (.invokestatic 78, 3) := by decide +kernel
theorem de_S_plan_89 : decode cd_S_plan 89 = .ok (.ifCond .ne 13, 3) := by decide +kernel
theorem de_S_plan_92 : decode cd_S_plan 92 = .ok (.new 85, 3) := by decide +kernel
theorem de_S_plan_95 : decode cd_S_plan 95 = .ok (.dup, 1) := by decide +kernel
theorem de_S_plan_96 : decode cd_S_plan 96 = .ok (.ldc 223, 2) := by decide +kernel
theorem de_S_plan_98 : decode cd_S_plan 98 = .ok (.invokespecial 89, 3) := by decide +kernel
theorem de_S_plan_101 : decode cd_S_plan 101 = .ok (.athrow, 1) := by decide +kernel
theorem de_S_plan_102 : decode cd_S_plan 102 = .ok (.aload_n 0, 1) := by decide +kernel
theorem de_S_plan_103 : decode cd_S_plan 103 = .ok (.getfield 40, 3) := by decide +kernel
theorem de_S_plan_106 : decode cd_S_plan 106 = .ok (.getfield 225, 3) := by decide +kernel
theorem de_S_plan_109 : decode cd_S_plan 109 = .ok (.bipush 20, 2) := by decide +kernel
theorem de_S_plan_111 : decode cd_S_plan 111 = .ok (.if_icmp .lt 13, 3) := by decide +kernel
theorem de_S_plan_114 : decode cd_S_plan 114 = .ok (.new 96, 3) := by decide +kernel
theorem de_S_plan_117 : decode cd_S_plan 117 = .ok (.dup, 1) := by decide +kernel
theorem de_S_plan_118 : decode cd_S_plan 118 = .ok (.ldc 226, 2) := by decide +kernel
theorem de_S_plan_120 : decode cd_S_plan 120 = .ok (.invokespecial 100, 3) := by decide +kernel
theorem de_S_plan_123 : decode cd_S_plan 123 = .ok (.athrow, 1) := by decide +kernel
theorem de_S_plan_124 : decode cd_S_plan 124 = .ok (.aload_n 0, 1) := by decide +kernel
theorem de_S_plan_125 : decode cd_S_plan 125 = .ok (.getfield 40, 3) := by decide +kernel
theorem de_S_plan_128 : decode cd_S_plan 128 = .ok (.iload_n 1, 1) := by decide +kernel
theorem de_S_plan_129 : decode cd_S_plan 129 = .ok (.iload_n 2, 1) := by decide +kernel
theorem de_S_plan_130 : decode cd_S_plan 130 = .ok (.lload_n 3, 1) := by decide +kernel
theorem de_S_plan_131 : decode cd_S_plan 131 = .ok (.invokevirtual 228, 3) := by decide +kernel
theorem de_S_plan_134 : decode cd_S_plan 134 = .ok (.ireturn, 1) := by decide +kernel
abbrev cd_E_append : ByteArray := prog_5_method_2_code
abbrev yn_E_append : MethodName := ⟨"StabilitySums$Steps", "append", "(ZIJ)I"⟩
theorem de_E_append_0 : decode cd_E_append 0 = .ok (.aload_n 0, 1) := by decide +kernel
theorem de_E_append_1 : decode cd_E_append 1 = .ok (.getfield 23, 3) := by decide +kernel
theorem de_E_append_4 : decode cd_E_append 4 = .ok (.istore 5, 2) := by decide +kernel
theorem de_E_append_6 : decode cd_E_append 6 = .ok (.aload_n 0, 1) := by decide +kernel
theorem de_E_append_7 : decode cd_E_append 7 = .ok (.getfield 9, 3) := by decide +kernel
theorem de_E_append_10 : decode cd_E_append 10 = .ok (.iload 5, 2) := by decide +kernel
theorem de_E_append_12 : decode cd_E_append 12 = .ok (.iload_n 1, 1) := by decide +kernel
theorem de_E_append_13 : decode cd_E_append 13 = .ok (.bastore, 1) := by decide +kernel
theorem de_E_append_14 : decode cd_E_append 14 = .ok (.aload_n 0, 1) := by decide +kernel
theorem de_E_append_15 : decode cd_E_append 15 = .ok (.getfield 15, 3) := by decide +kernel
theorem de_E_append_18 : decode cd_E_append 18 = .ok (.iload 5, 2) := by decide +kernel
theorem de_E_append_20 : decode cd_E_append 20 = .ok (.iload_n 2, 1) := by decide +kernel
theorem de_E_append_21 : decode cd_E_append 21 = .ok (.iastore, 1) := by decide +kernel
theorem de_E_append_22 : decode cd_E_append 22 = .ok (.aload_n 0, 1) := by decide +kernel
theorem de_E_append_23 : decode cd_E_append 23 = .ok (.getfield 19, 3) := by decide +kernel
theorem de_E_append_26 : decode cd_E_append 26 = .ok (.iload 5, 2) := by decide +kernel
theorem de_E_append_28 : decode cd_E_append 28 = .ok (.lload_n 3, 1) := by decide +kernel
theorem de_E_append_29 : decode cd_E_append 29 = .ok (.lastore, 1) := by decide +kernel
theorem de_E_append_30 : decode cd_E_append 30 = .ok (.aload_n 0, 1) := by decide +kernel
theorem de_E_append_31 : decode cd_E_append 31 = .ok (.dup, 1) := by decide +kernel
theorem de_E_append_32 : decode cd_E_append 32 = .ok (.getfield 23, 3) := by decide +kernel
theorem de_E_append_35 : decode cd_E_append 35 = .ok (.iconst 1, 1) := by decide +kernel
theorem de_E_append_36 : decode cd_E_append 36 = .ok (.iadd, 1) := by decide +kernel
theorem de_E_append_37 : decode cd_E_append 37 = .ok (.putfield 23, 3) := by decide +kernel
theorem de_E_append_40 : decode cd_E_append 40 = .ok (.iload 5, 2) := by decide +kernel
theorem de_E_append_42 : decode cd_E_append 42 = .ok (.ireturn, 1) := by decide +kernel
abbrev cd_A_step : ByteArray := method_13_code
abbrev yn_A_step : MethodName := ⟨"StabilitySumsLaw", "step", "(LStabilitySums;I[J)I"⟩
theorem de_A_step_0 : decode cd_A_step 0 = .ok (.aload_n 2, 1) := by decide +kernel
theorem de_A_step_1 : decode cd_A_step 1 = .ok (.iconst 0, 1) := by decide +kernel
theorem de_A_step_2 : decode cd_A_step 2 = .ok (.aload_n 0, 1) := by decide +kernel
theorem de_A_step_3 : decode cd_A_step 3 = .ok (.iload_n 1, 1) := by decide +kernel
theorem de_A_step_4 : decode cd_A_step 4 = .ok (.invokevirtual 56, 3) := by decide +kernel
theorem de_A_step_7 : decode cd_A_step 7 = .ok (.i2l, 1) := by decide +kernel
theorem de_A_step_8 : decode cd_A_step 8 = .ok (.lastore, 1) := by decide +kernel
theorem de_A_step_9 : decode cd_A_step 9 = .ok (.goto 6, 3) := by decide +kernel
theorem de_A_step_12 : decode cd_A_step 12 = .ok (.astore_n 3, 1) := by decide +kernel
theorem de_A_step_13 : decode cd_A_step 13 = .ok (.iconst 1, 1) := by decide +kernel
theorem de_A_step_14 : decode cd_A_step 14 = .ok (.ireturn, 1) := by decide +kernel
theorem de_A_step_15 : decode cd_A_step 15 = .ok (.iconst 0, 1) := by decide +kernel
theorem de_A_step_16 : decode cd_A_step 16 = .ok (.ireturn, 1) := by decide +kernel
abbrev cd_S_step : ByteArray := prog_1_method_15_code
abbrev yn_S_step : MethodName := ⟨"StabilitySums", "step", "(I)I"⟩
theorem de_S_step_0 : decode cd_S_step 0 = .ok (.iload_n 1, 1) := by decide +kernel
theorem de_S_step_1 : decode cd_S_step 1 = .ok (.i2l, 1) := by decide +kernel
theorem de_S_step_2 : decode cd_S_step 2 = .ok (.lconst 0, 1) := by decide +kernel
theorem de_S_step_3 : decode cd_S_step 3 = .ok (.aload_n 0, 1) := by decide +kernel
theorem de_S_step_4 : decode cd_S_step 4 = .ok (.getfield 40, 3) := by decide +kernel
theorem de_S_step_7 : decode cd_S_step 7 = .ok (.getfield 225, 3) := by decide +kernel
theorem de_S_step_10 : decode cd_S_step 10 = .ok (.i2l, 1) := by decide +kernel
theorem de_S_step_11 : decode cd_S_step 11 = .ok (.lconst 1, 1) := by decide +kernel
theorem de_S_step_12 : decode cd_S_step 12 = .ok (.lsub, 1) := by decide +kernel
theorem de_S_step_13 : decode cd_S_step 13 = .ok (.invokestatic 78, 3) := by decide +kernel
theorem de_S_step_16 : decode cd_S_step 16 = .ok (.ifCond .ne 13, 3) := by decide +kernel
theorem de_S_step_19 : decode cd_S_step 19 = .ok (.new 119, 3) := by decide +kernel
theorem de_S_step_22 : decode cd_S_step 22 = .ok (.dup, 1) := by decide +kernel
theorem de_S_step_23 : decode cd_S_step 23 = .ok (.ldc 231, 2) := by decide +kernel
theorem de_S_step_25 : decode cd_S_step 25 = .ok (.invokespecial 123, 3) := by decide +kernel
theorem de_S_step_28 : decode cd_S_step 28 = .ok (.athrow, 1) := by decide +kernel
theorem de_S_step_29 : decode cd_S_step 29 = .ok (.aload_n 0, 1) := by decide +kernel
theorem de_S_step_30 : decode cd_S_step 30 = .ok (.invokevirtual 155, 3) := by decide +kernel
theorem de_S_step_33 : decode cd_S_step 33 = .ok (.iconst 0, 1) := by decide +kernel
theorem de_S_step_34 : decode cd_S_step 34 = .ok (.istore_n 2, 1) := by decide +kernel
theorem de_S_step_35 : decode cd_S_step 35 = .ok (.iload_n 2, 1) := by decide +kernel
theorem de_S_step_36 : decode cd_S_step 36 = .ok (.iload_n 1, 1) := by decide +kernel
theorem de_S_step_37 : decode cd_S_step 37 = .ok (.if_icmp .gt 14, 3) := by decide +kernel
theorem de_S_step_40 : decode cd_S_step 40 = .ok (.aload_n 0, 1) := by decide +kernel
theorem de_S_step_41 : decode cd_S_step 41 = .ok (.iload_n 2, 1) := by decide +kernel
theorem de_S_step_42 : decode cd_S_step 42 = .ok (.invokevirtual 233, 3) := by decide +kernel
theorem de_S_step_45 : decode cd_S_step 45 = .ok (.iinc 2 1, 3) := by decide +kernel
theorem de_S_step_48 : decode cd_S_step 48 = .ok (.goto (-13), 3) := by decide +kernel
theorem de_S_step_51 : decode cd_S_step 51 = .ok (.aload_n 0, 1) := by decide +kernel
theorem de_S_step_52 : decode cd_S_step 52 = .ok (.invokevirtual 209, 3) := by decide +kernel
theorem de_S_step_55 : decode cd_S_step 55 = .ok (.ireturn, 1) := by decide +kernel
abbrev cd_M_init : ByteArray := prog_11_method_1_code
abbrev yn_M_init : MethodName := ⟨"StabilitySumsModel", "<init>", "()V"⟩
theorem de_M_init_0 : decode cd_M_init 0 = .ok (.aload_n 0, 1) := by decide +kernel
theorem de_M_init_1 : decode cd_M_init 1 = .ok (.invokespecial 1, 3) := by decide +kernel
theorem de_M_init_4 : decode cd_M_init 4 = .ok (.aload_n 0, 1) := by decide +kernel
theorem de_M_init_5 : decode cd_M_init 5 = .ok (.bipush 40, 2) := by decide +kernel
theorem de_M_init_7 : decode cd_M_init 7 = .ok (.newarray .long, 2) := by decide +kernel
theorem de_M_init_9 : decode cd_M_init 9 = .ok (.putfield 7, 3) := by decide +kernel
theorem de_M_init_12 : decode cd_M_init 12 = .ok (.aload_n 0, 1) := by decide +kernel
theorem de_M_init_13 : decode cd_M_init 13 = .ok (.bipush 40, 2) := by decide +kernel
theorem de_M_init_15 : decode cd_M_init 15 = .ok (.newarray .long, 2) := by decide +kernel
theorem de_M_init_17 : decode cd_M_init 17 = .ok (.putfield 13, 3) := by decide +kernel
theorem de_M_init_20 : decode cd_M_init 20 = .ok (.aload_n 0, 1) := by decide +kernel
theorem de_M_init_21 : decode cd_M_init 21 = .ok (.bipush 40, 2) := by decide +kernel
theorem de_M_init_23 : decode cd_M_init 23 = .ok (.newarray .long, 2) := by decide +kernel
theorem de_M_init_25 : decode cd_M_init 25 = .ok (.putfield 16, 3) := by decide +kernel
theorem de_M_init_28 : decode cd_M_init 28 = .ok (.aload_n 0, 1) := by decide +kernel
theorem de_M_init_29 : decode cd_M_init 29 = .ok (.bipush 40, 2) := by decide +kernel
theorem de_M_init_31 : decode cd_M_init 31 = .ok (.newarray .long, 2) := by decide +kernel
theorem de_M_init_33 : decode cd_M_init 33 = .ok (.putfield 19, 3) := by decide +kernel
theorem de_M_init_36 : decode cd_M_init 36 = .ok (.aload_n 0, 1) := by decide +kernel
theorem de_M_init_37 : decode cd_M_init 37 = .ok (.iconst 4, 1) := by decide +kernel
theorem de_M_init_38 : decode cd_M_init 38 = .ok (.newarray .long, 2) := by decide +kernel
theorem de_M_init_40 : decode cd_M_init 40 = .ok (.putfield 22, 3) := by decide +kernel
theorem de_M_init_43 : decode cd_M_init 43 = .ok (.aload_n 0, 1) := by decide +kernel
theorem de_M_init_44 : decode cd_M_init 44 = .ok (.iconst 4, 1) := by decide +kernel
theorem de_M_init_45 : decode cd_M_init 45 = .ok (.newarray .long, 2) := by decide +kernel
theorem de_M_init_47 : decode cd_M_init 47 = .ok (.putfield 25, 3) := by decide +kernel
theorem de_M_init_50 : decode cd_M_init 50 = .ok (.aload_n 0, 1) := by decide +kernel
theorem de_M_init_51 : decode cd_M_init 51 = .ok (.iconst 4, 1) := by decide +kernel
theorem de_M_init_52 : decode cd_M_init 52 = .ok (.newarray .long, 2) := by decide +kernel
theorem de_M_init_54 : decode cd_M_init 54 = .ok (.putfield 28, 3) := by decide +kernel
theorem de_M_init_57 : decode cd_M_init 57 = .ok (.aload_n 0, 1) := by decide +kernel
theorem de_M_init_58 : decode cd_M_init 58 = .ok (.iconst 4, 1) := by decide +kernel
theorem de_M_init_59 : decode cd_M_init 59 = .ok (.newarray .long, 2) := by decide +kernel
theorem de_M_init_61 : decode cd_M_init 61 = .ok (.putfield 31, 3) := by decide +kernel
theorem de_M_init_64 : decode cd_M_init 64 = .ok (.aload_n 0, 1) := by decide +kernel
theorem de_M_init_65 : decode cd_M_init 65 = .ok (.iconst 4, 1) := by decide +kernel
theorem de_M_init_66 : decode cd_M_init 66 = .ok (.newarray .long, 2) := by decide +kernel
theorem de_M_init_68 : decode cd_M_init 68 = .ok (.putfield 34, 3) := by decide +kernel
theorem de_M_init_71 : decode cd_M_init 71 = .ok (.aload_n 0, 1) := by decide +kernel
theorem de_M_init_72 : decode cd_M_init 72 = .ok (.iconst 4, 1) := by decide +kernel
theorem de_M_init_73 : decode cd_M_init 73 = .ok (.newarray .long, 2) := by decide +kernel
theorem de_M_init_75 : decode cd_M_init 75 = .ok (.putfield 37, 3) := by decide +kernel
theorem de_M_init_78 : decode cd_M_init 78 = .ok (.aload_n 0, 1) := by decide +kernel
theorem de_M_init_79 : decode cd_M_init 79 = .ok (.bipush 40, 2) := by decide +kernel
theorem de_M_init_81 : decode cd_M_init 81 = .ok (.newarray .long, 2) := by decide +kernel
theorem de_M_init_83 : decode cd_M_init 83 = .ok (.putfield 40, 3) := by decide +kernel
theorem de_M_init_86 : decode cd_M_init 86 = .ok (.aload_n 0, 1) := by decide +kernel
theorem de_M_init_87 : decode cd_M_init 87 = .ok (.iconst 4, 1) := by decide +kernel
theorem de_M_init_88 : decode cd_M_init 88 = .ok (.newarray .long, 2) := by decide +kernel
theorem de_M_init_90 : decode cd_M_init 90 = .ok (.putfield 43, 3) := by decide +kernel
theorem de_M_init_93 : decode cd_M_init 93 = .ok (.aload_n 0, 1) := by decide +kernel
theorem de_M_init_94 : decode cd_M_init 94 = .ok (.iconst 4, 1) := by decide +kernel
theorem de_M_init_95 : decode cd_M_init 95 = .ok (.newarray .long, 2) := by decide +kernel
theorem de_M_init_97 : decode cd_M_init 97 = .ok (.putfield 46, 3) := by decide +kernel
theorem de_M_init_100 : decode cd_M_init 100 = .ok (.aload_n 0, 1) := by decide +kernel
theorem de_M_init_101 : decode cd_M_init 101 = .ok (.bipush 12, 2) := by decide +kernel
theorem de_M_init_103 : decode cd_M_init 103 = .ok (.newarray .long, 2) := by decide +kernel
theorem de_M_init_105 : decode cd_M_init 105 = .ok (.putfield 49, 3) := by decide +kernel
theorem de_M_init_108 : decode cd_M_init 108 = .ok (.aload_n 0, 1) := by decide +kernel
theorem de_M_init_109 : decode cd_M_init 109 = .ok (.bipush 12, 2) := by decide +kernel
theorem de_M_init_111 : decode cd_M_init 111 = .ok (.newarray .long, 2) := by decide +kernel
theorem de_M_init_113 : decode cd_M_init 113 = .ok (.putfield 52, 3) := by decide +kernel
theorem de_M_init_116 : decode cd_M_init 116 = .ok (.aload_n 0, 1) := by decide +kernel
theorem de_M_init_117 : decode cd_M_init 117 = .ok (.bipush 12, 2) := by decide +kernel
theorem de_M_init_119 : decode cd_M_init 119 = .ok (.newarray .long, 2) := by decide +kernel
theorem de_M_init_121 : decode cd_M_init 121 = .ok (.putfield 55, 3) := by decide +kernel
theorem de_M_init_124 : decode cd_M_init 124 = .ok (.aload_n 0, 1) := by decide +kernel
theorem de_M_init_125 : decode cd_M_init 125 = .ok (.ldc2_w 58, 3) := by decide +kernel
theorem de_M_init_128 : decode cd_M_init 128 = .ok (.putfield 60, 3) := by decide +kernel
theorem de_M_init_131 : decode cd_M_init 131 = .ok (.aload_n 0, 1) := by decide +kernel
theorem de_M_init_132 : decode cd_M_init 132 = .ok (.bipush 10, 2) := by decide +kernel
theorem de_M_init_134 : decode cd_M_init 134 = .ok (.newarray .int, 2) := by decide +kernel
theorem de_M_init_136 : decode cd_M_init 136 = .ok (.putfield 64, 3) := by decide +kernel
theorem de_M_init_139 : decode cd_M_init 139 = .ok (.aload_n 0, 1) := by decide +kernel
theorem de_M_init_140 : decode cd_M_init 140 = .ok (.bipush 10, 2) := by decide +kernel
theorem de_M_init_142 : decode cd_M_init 142 = .ok (.newarray .long, 2) := by decide +kernel
theorem de_M_init_144 : decode cd_M_init 144 = .ok (.putfield 68, 3) := by decide +kernel
theorem de_M_init_147 : decode cd_M_init 147 = .ok (.aload_n 0, 1) := by decide +kernel
theorem de_M_init_148 : decode cd_M_init 148 = .ok (.bipush 10, 2) := by decide +kernel
theorem de_M_init_150 : decode cd_M_init 150 = .ok (.newarray .long, 2) := by decide +kernel
theorem de_M_init_152 : decode cd_M_init 152 = .ok (.putfield 71, 3) := by decide +kernel
theorem de_M_init_155 : decode cd_M_init 155 = .ok (.aload_n 0, 1) := by decide +kernel
theorem de_M_init_156 : decode cd_M_init 156 = .ok (.bipush 10, 2) := by decide +kernel
theorem de_M_init_158 : decode cd_M_init 158 = .ok (.newarray .long, 2) := by decide +kernel
theorem de_M_init_160 : decode cd_M_init 160 = .ok (.putfield 74, 3) := by decide +kernel
theorem de_M_init_163 : decode cd_M_init 163 = .ok (.aload_n 0, 1) := by decide +kernel
theorem de_M_init_164 : decode cd_M_init 164 = .ok (.bipush 20, 2) := by decide +kernel
theorem de_M_init_166 : decode cd_M_init 166 = .ok (.newarray .boolean, 2) := by decide +kernel
theorem de_M_init_168 : decode cd_M_init 168 = .ok (.putfield 77, 3) := by decide +kernel
theorem de_M_init_171 : decode cd_M_init 171 = .ok (.aload_n 0, 1) := by decide +kernel
theorem de_M_init_172 : decode cd_M_init 172 = .ok (.bipush 20, 2) := by decide +kernel
theorem de_M_init_174 : decode cd_M_init 174 = .ok (.newarray .int, 2) := by decide +kernel
theorem de_M_init_176 : decode cd_M_init 176 = .ok (.putfield 81, 3) := by decide +kernel
theorem de_M_init_179 : decode cd_M_init 179 = .ok (.aload_n 0, 1) := by decide +kernel
theorem de_M_init_180 : decode cd_M_init 180 = .ok (.bipush 20, 2) := by decide +kernel
theorem de_M_init_182 : decode cd_M_init 182 = .ok (.newarray .long, 2) := by decide +kernel
theorem de_M_init_184 : decode cd_M_init 184 = .ok (.putfield 84, 3) := by decide +kernel
theorem de_M_init_187 : decode cd_M_init 187 = .ok (.return_, 1) := by decide +kernel
abbrev cd_M_thrown : ByteArray := prog_11_method_2_code
abbrev yn_M_thrown : MethodName := ⟨"StabilitySumsModel", "thrown", "()I"⟩
theorem de_M_thrown_0 : decode cd_M_thrown 0 = .ok (.aload_n 0, 1) := by decide +kernel
theorem de_M_thrown_1 : decode cd_M_thrown 1 = .ok (.getfield 87, 3) := by decide +kernel
theorem de_M_thrown_4 : decode cd_M_thrown 4 = .ok (.ireturn, 1) := by decide +kernel
abbrev cd_M_value : ByteArray := prog_11_method_14_code
abbrev yn_M_value : MethodName := ⟨"StabilitySumsModel", "value", "(II)J"⟩
theorem de_M_value_0 : decode cd_M_value 0 = .ok (.aload_n 0, 1) := by decide +kernel
theorem de_M_value_1 : decode cd_M_value 1 = .ok (.invokevirtual 129, 3) := by decide +kernel
theorem de_M_value_4 : decode cd_M_value 4 = .ok (.aload_n 0, 1) := by decide +kernel
theorem de_M_value_5 : decode cd_M_value 5 = .ok (.iload_n 1, 1) := by decide +kernel
theorem de_M_value_6 : decode cd_M_value 6 = .ok (.ifCond .lt 18, 3) := by decide +kernel
theorem de_M_value_9 : decode cd_M_value 9 = .ok (.iload_n 1, 1) := by decide +kernel
theorem de_M_value_10 : decode cd_M_value 10 = .ok (.bipush 7, 2) := by decide +kernel
theorem de_M_value_12 : decode cd_M_value 12 = .ok (.if_icmp .gt 12, 3) := by decide +kernel
theorem de_M_value_15 : decode cd_M_value 15 = .ok (.iload_n 2, 1) := by decide +kernel
theorem de_M_value_16 : decode cd_M_value 16 = .ok (.ifCond .lt 8, 3) := by decide +kernel
theorem de_M_value_19 : decode cd_M_value 19 = .ok (.iload_n 2, 1) := by decide +kernel
theorem de_M_value_20 : decode cd_M_value 20 = .ok (.iconst 2, 1) := by decide +kernel
theorem de_M_value_21 : decode cd_M_value 21 = .ok (.if_icmp .le 7, 3) := by decide +kernel
theorem de_M_value_24 : decode cd_M_value 24 = .ok (.iconst 1, 1) := by decide +kernel
theorem de_M_value_25 : decode cd_M_value 25 = .ok (.goto 25, 3) := by decide +kernel
theorem de_M_value_28 : decode cd_M_value 28 = .ok (.iload_n 1, 1) := by decide +kernel
theorem de_M_value_29 : decode cd_M_value 29 = .ok (.invokestatic 132, 3) := by decide +kernel
theorem de_M_value_32 : decode cd_M_value 32 = .ok (.ifCond .eq 17, 3) := by decide +kernel
theorem de_M_value_35 : decode cd_M_value 35 = .ok (.aload_n 0, 1) := by decide +kernel
theorem de_M_value_36 : decode cd_M_value 36 = .ok (.iconst 0, 1) := by decide +kernel
theorem de_M_value_37 : decode cd_M_value 37 = .ok (.invokevirtual 112, 3) := by decide +kernel
theorem de_M_value_40 : decode cd_M_value 40 = .ok (.lconst 0, 1) := by decide +kernel
theorem de_M_value_41 : decode cd_M_value 41 = .ok (.lcmp, 1) := by decide +kernel
theorem de_M_value_42 : decode cd_M_value 42 = .ok (.ifCond .ne 7, 3) := by decide +kernel
theorem de_M_value_45 : decode cd_M_value 45 = .ok (.iconst 2, 1) := by decide +kernel
theorem de_M_value_46 : decode cd_M_value 46 = .ok (.goto 4, 3) := by decide +kernel
theorem de_M_value_49 : decode cd_M_value 49 = .ok (.iconst 0, 1) := by decide +kernel
theorem de_M_value_50 : decode cd_M_value 50 = .ok (.putfield 87, 3) := by decide +kernel
theorem de_M_value_53 : decode cd_M_value 53 = .ok (.aload_n 0, 1) := by decide +kernel
theorem de_M_value_54 : decode cd_M_value 54 = .ok (.getfield 87, 3) := by decide +kernel
theorem de_M_value_57 : decode cd_M_value 57 = .ok (.ifCond .le 5, 3) := by decide +kernel
theorem de_M_value_60 : decode cd_M_value 60 = .ok (.lconst 0, 1) := by decide +kernel
theorem de_M_value_61 : decode cd_M_value 61 = .ok (.lreturn, 1) := by decide +kernel
theorem de_M_value_62 : decode cd_M_value 62 = .ok (.aload_n 0, 1) := by decide +kernel
theorem de_M_value_63 : decode cd_M_value 63 = .ok (.iload_n 1, 1) := by decide +kernel
theorem de_M_value_64 : decode cd_M_value 64 = .ok (.invokevirtual 136, 3) := by decide +kernel
theorem de_M_value_67 : decode cd_M_value 67 = .ok (.aload_n 0, 1) := by decide +kernel
theorem de_M_value_68 : decode cd_M_value 68 = .ok (.getfield 106, 3) := by decide +kernel
theorem de_M_value_71 : decode cd_M_value 71 = .ok (.aload_n 0, 1) := by decide +kernel
theorem de_M_value_72 : decode cd_M_value 72 = .ok (.getfield 109, 3) := by decide +kernel
theorem de_M_value_75 : decode cd_M_value 75 = .ok (.invokestatic 140, 3) := by decide +kernel
theorem de_M_value_78 : decode cd_M_value 78 = .ok (.lstore_n 3, 1) := by decide +kernel
theorem de_M_value_79 : decode cd_M_value 79 = .ok (.iload_n 2, 1) := by decide +kernel
theorem de_M_value_80 : decode cd_M_value 80 = .ok (.ifCond .ne 17, 3) := by decide +kernel
theorem de_M_value_83 : decode cd_M_value 83 = .ok (.aload_n 0, 1) := by decide +kernel
theorem de_M_value_84 : decode cd_M_value 84 = .ok (.getfield 106, 3) := by decide +kernel
theorem de_M_value_87 : decode cd_M_value 87 = .ok (.aload_n 0, 1) := by decide +kernel
theorem de_M_value_88 : decode cd_M_value 88 = .ok (.getfield 109, 3) := by decide +kernel
theorem de_M_value_91 : decode cd_M_value 91 = .ok (.invokestatic 144, 3) := by decide +kernel
theorem de_M_value_94 : decode cd_M_value 94 = .ok (.goto 23, 3) := by decide +kernel
theorem de_M_value_97 : decode cd_M_value 97 = .ok (.iload_n 2, 1) := by decide +kernel
theorem de_M_value_98 : decode cd_M_value 98 = .ok (.iconst 1, 1) := by decide +kernel
theorem de_M_value_99 : decode cd_M_value 99 = .ok (.if_icmp .ne 12, 3) := by decide +kernel
theorem de_M_value_102 : decode cd_M_value 102 = .ok (.aload_n 0, 1) := by decide +kernel
theorem de_M_value_103 : decode cd_M_value 103 = .ok (.getfield 106, 3) := by decide +kernel
theorem de_M_value_106 : decode cd_M_value 106 = .ok (.lload_n 3, 1) := by decide +kernel
theorem de_M_value_107 : decode cd_M_value 107 = .ok (.ldiv, 1) := by decide +kernel
theorem de_M_value_108 : decode cd_M_value 108 = .ok (.goto 9, 3) := by decide +kernel
theorem de_M_value_111 : decode cd_M_value 111 = .ok (.aload_n 0, 1) := by decide +kernel
theorem de_M_value_112 : decode cd_M_value 112 = .ok (.getfield 109, 3) := by decide +kernel
theorem de_M_value_115 : decode cd_M_value 115 = .ok (.lload_n 3, 1) := by decide +kernel
theorem de_M_value_116 : decode cd_M_value 116 = .ok (.ldiv, 1) := by decide +kernel
theorem de_M_value_117 : decode cd_M_value 117 = .ok (.lreturn, 1) := by decide +kernel
abbrev cd_M_present : ByteArray := prog_11_method_7_code
abbrev yn_M_present : MethodName := ⟨"StabilitySumsModel", "present", "()V"⟩
theorem de_M_present_0 : decode cd_M_present 0 = .ok (.iconst 0, 1) := by decide +kernel
theorem de_M_present_1 : decode cd_M_present 1 = .ok (.istore_n 1, 1) := by decide +kernel
theorem de_M_present_2 : decode cd_M_present 2 = .ok (.iload_n 1, 1) := by decide +kernel
theorem de_M_present_3 : decode cd_M_present 3 = .ok (.aload_n 0, 1) := by decide +kernel
theorem de_M_present_4 : decode cd_M_present 4 = .ok (.getfield 97, 3) := by decide +kernel
theorem de_M_present_7 : decode cd_M_present 7 = .ok (.if_icmp .ge 21, 3) := by decide +kernel
theorem de_M_present_10 : decode cd_M_present 10 = .ok (.aload_n 0, 1) := by decide +kernel
theorem de_M_present_11 : decode cd_M_present 11 = .ok (.getfield 40, 3) := by decide +kernel
theorem de_M_present_14 : decode cd_M_present 14 = .ok (.iload_n 1, 1) := by decide +kernel
theorem de_M_present_15 : decode cd_M_present 15 = .ok (.aload_n 0, 1) := by decide +kernel
theorem de_M_present_16 : decode cd_M_present 16 = .ok (.getfield 7, 3) := by decide +kernel
theorem de_M_present_19 : decode cd_M_present 19 = .ok (.iload_n 1, 1) := by decide +kernel
theorem de_M_present_20 : decode cd_M_present 20 = .ok (.laload, 1) := by decide +kernel
theorem de_M_present_21 : decode cd_M_present 21 = .ok (.lastore, 1) := by decide +kernel
theorem de_M_present_22 : decode cd_M_present 22 = .ok (.iinc 1 1, 3) := by decide +kernel
theorem de_M_present_25 : decode cd_M_present 25 = .ok (.goto (-23), 3) := by decide +kernel
theorem de_M_present_28 : decode cd_M_present 28 = .ok (.iconst 0, 1) := by decide +kernel
theorem de_M_present_29 : decode cd_M_present 29 = .ok (.istore_n 1, 1) := by decide +kernel
theorem de_M_present_30 : decode cd_M_present 30 = .ok (.iload_n 1, 1) := by decide +kernel
theorem de_M_present_31 : decode cd_M_present 31 = .ok (.aload_n 0, 1) := by decide +kernel
theorem de_M_present_32 : decode cd_M_present 32 = .ok (.getfield 100, 3) := by decide +kernel
theorem de_M_present_35 : decode cd_M_present 35 = .ok (.if_icmp .ge 21, 3) := by decide +kernel
theorem de_M_present_38 : decode cd_M_present 38 = .ok (.aload_n 0, 1) := by decide +kernel
theorem de_M_present_39 : decode cd_M_present 39 = .ok (.getfield 43, 3) := by decide +kernel
theorem de_M_present_42 : decode cd_M_present 42 = .ok (.iload_n 1, 1) := by decide +kernel
theorem de_M_present_43 : decode cd_M_present 43 = .ok (.aload_n 0, 1) := by decide +kernel
theorem de_M_present_44 : decode cd_M_present 44 = .ok (.getfield 37, 3) := by decide +kernel
theorem de_M_present_47 : decode cd_M_present 47 = .ok (.iload_n 1, 1) := by decide +kernel
theorem de_M_present_48 : decode cd_M_present 48 = .ok (.laload, 1) := by decide +kernel
theorem de_M_present_49 : decode cd_M_present 49 = .ok (.lastore, 1) := by decide +kernel
theorem de_M_present_50 : decode cd_M_present 50 = .ok (.iinc 1 1, 3) := by decide +kernel
theorem de_M_present_53 : decode cd_M_present 53 = .ok (.goto (-23), 3) := by decide +kernel
theorem de_M_present_56 : decode cd_M_present 56 = .ok (.return_, 1) := by decide +kernel
abbrev cd_M_divides : ByteArray := prog_11_method_11_code
abbrev yn_M_divides : MethodName := ⟨"StabilitySumsModel", "divides", "(I)Z"⟩
theorem de_M_divides_0 : decode cd_M_divides 0 = .ok (.iload_n 0, 1) := by decide +kernel
theorem de_M_divides_1 : decode cd_M_divides 1 = .ok (.ifCond .eq 13, 3) := by decide +kernel
theorem de_M_divides_4 : decode cd_M_divides 4 = .ok (.iload_n 0, 1) := by decide +kernel
theorem de_M_divides_5 : decode cd_M_divides 5 = .ok (.bipush 6, 2) := by decide +kernel
theorem de_M_divides_7 : decode cd_M_divides 7 = .ok (.if_icmp .eq 7, 3) := by decide +kernel
theorem de_M_divides_10 : decode cd_M_divides 10 = .ok (.iconst 1, 1) := by decide +kernel
theorem de_M_divides_11 : decode cd_M_divides 11 = .ok (.goto 4, 3) := by decide +kernel
theorem de_M_divides_14 : decode cd_M_divides 14 = .ok (.iconst 0, 1) := by decide +kernel
theorem de_M_divides_15 : decode cd_M_divides 15 = .ok (.ireturn, 1) := by decide +kernel
abbrev cd_M_sum : ByteArray := prog_11_method_8_code
abbrev yn_M_sum : MethodName := ⟨"StabilitySumsModel", "sum", "(I)J"⟩
theorem de_M_sum_0 : decode cd_M_sum 0 = .ok (.lconst 0, 1) := by decide +kernel
theorem de_M_sum_1 : decode cd_M_sum 1 = .ok (.lstore_n 2, 1) := by decide +kernel
theorem de_M_sum_2 : decode cd_M_sum 2 = .ok (.iconst 0, 1) := by decide +kernel
theorem de_M_sum_3 : decode cd_M_sum 3 = .ok (.istore 4, 2) := by decide +kernel
theorem de_M_sum_5 : decode cd_M_sum 5 = .ok (.iload 4, 2) := by decide +kernel
theorem de_M_sum_7 : decode cd_M_sum 7 = .ok (.aload_n 0, 1) := by decide +kernel
theorem de_M_sum_8 : decode cd_M_sum 8 = .ok (.getfield 97, 3) := by decide +kernel
theorem de_M_sum_11 : decode cd_M_sum 11 = .ok (.if_icmp .ge 65, 3) := by decide +kernel
theorem de_M_sum_14 : decode cd_M_sum 14 = .ok (.lload_n 2, 1) := by decide +kernel
theorem de_M_sum_15 : decode cd_M_sum 15 = .ok (.aload_n 0, 1) := by decide +kernel
theorem de_M_sum_16 : decode cd_M_sum 16 = .ok (.getfield 40, 3) := by decide +kernel
theorem de_M_sum_19 : decode cd_M_sum 19 = .ok (.iload 4, 2) := by decide +kernel
theorem de_M_sum_21 : decode cd_M_sum 21 = .ok (.laload, 1) := by decide +kernel
theorem de_M_sum_22 : decode cd_M_sum 22 = .ok (.iload_n 1, 1) := by decide +kernel
theorem de_M_sum_23 : decode cd_M_sum 23 = .ok (.ifCond .ne 7, 3) := by decide +kernel
theorem de_M_sum_26 : decode cd_M_sum 26 = .ok (.lconst 1, 1) := by decide +kernel
theorem de_M_sum_27 : decode cd_M_sum 27 = .ok (.goto 40, 3) := by decide +kernel
theorem de_M_sum_30 : decode cd_M_sum 30 = .ok (.iload_n 1, 1) := by decide +kernel
theorem de_M_sum_31 : decode cd_M_sum 31 = .ok (.iconst 1, 1) := by decide +kernel
theorem de_M_sum_32 : decode cd_M_sum 32 = .ok (.if_icmp .ne 13, 3) := by decide +kernel
theorem de_M_sum_35 : decode cd_M_sum 35 = .ok (.aload_n 0, 1) := by decide +kernel
theorem de_M_sum_36 : decode cd_M_sum 36 = .ok (.getfield 13, 3) := by decide +kernel
theorem de_M_sum_39 : decode cd_M_sum 39 = .ok (.iload 4, 2) := by decide +kernel
theorem de_M_sum_41 : decode cd_M_sum 41 = .ok (.laload, 1) := by decide +kernel
theorem de_M_sum_42 : decode cd_M_sum 42 = .ok (.goto 25, 3) := by decide +kernel
theorem de_M_sum_45 : decode cd_M_sum 45 = .ok (.iload_n 1, 1) := by decide +kernel
theorem de_M_sum_46 : decode cd_M_sum 46 = .ok (.iconst 2, 1) := by decide +kernel
theorem de_M_sum_47 : decode cd_M_sum 47 = .ok (.if_icmp .ne 13, 3) := by decide +kernel
theorem de_M_sum_50 : decode cd_M_sum 50 = .ok (.aload_n 0, 1) := by decide +kernel
theorem de_M_sum_51 : decode cd_M_sum 51 = .ok (.getfield 16, 3) := by decide +kernel
theorem de_M_sum_54 : decode cd_M_sum 54 = .ok (.iload 4, 2) := by decide +kernel
theorem de_M_sum_56 : decode cd_M_sum 56 = .ok (.laload, 1) := by decide +kernel
theorem de_M_sum_57 : decode cd_M_sum 57 = .ok (.goto 10, 3) := by decide +kernel
theorem de_M_sum_60 : decode cd_M_sum 60 = .ok (.aload_n 0, 1) := by decide +kernel
theorem de_M_sum_61 : decode cd_M_sum 61 = .ok (.getfield 19, 3) := by decide +kernel
theorem de_M_sum_64 : decode cd_M_sum 64 = .ok (.iload 4, 2) := by decide +kernel
theorem de_M_sum_66 : decode cd_M_sum 66 = .ok (.laload, 1) := by decide +kernel
theorem de_M_sum_67 : decode cd_M_sum 67 = .ok (.lmul, 1) := by decide +kernel
theorem de_M_sum_68 : decode cd_M_sum 68 = .ok (.ladd, 1) := by decide +kernel
theorem de_M_sum_69 : decode cd_M_sum 69 = .ok (.lstore_n 2, 1) := by decide +kernel
theorem de_M_sum_70 : decode cd_M_sum 70 = .ok (.iinc 4 1, 3) := by decide +kernel
theorem de_M_sum_73 : decode cd_M_sum 73 = .ok (.goto (-68), 3) := by decide +kernel
theorem de_M_sum_76 : decode cd_M_sum 76 = .ok (.iconst 0, 1) := by decide +kernel
theorem de_M_sum_77 : decode cd_M_sum 77 = .ok (.istore 4, 2) := by decide +kernel
theorem de_M_sum_79 : decode cd_M_sum 79 = .ok (.iload 4, 2) := by decide +kernel
theorem de_M_sum_81 : decode cd_M_sum 81 = .ok (.aload_n 0, 1) := by decide +kernel
theorem de_M_sum_82 : decode cd_M_sum 82 = .ok (.getfield 100, 3) := by decide +kernel
theorem de_M_sum_85 : decode cd_M_sum 85 = .ok (.if_icmp .ge 65, 3) := by decide +kernel
theorem de_M_sum_88 : decode cd_M_sum 88 = .ok (.lload_n 2, 1) := by decide +kernel
theorem de_M_sum_89 : decode cd_M_sum 89 = .ok (.aload_n 0, 1) := by decide +kernel
theorem de_M_sum_90 : decode cd_M_sum 90 = .ok (.getfield 43, 3) := by decide +kernel
theorem de_M_sum_93 : decode cd_M_sum 93 = .ok (.iload 4, 2) := by decide +kernel
theorem de_M_sum_95 : decode cd_M_sum 95 = .ok (.laload, 1) := by decide +kernel
theorem de_M_sum_96 : decode cd_M_sum 96 = .ok (.iload_n 1, 1) := by decide +kernel
theorem de_M_sum_97 : decode cd_M_sum 97 = .ok (.ifCond .ne 7, 3) := by decide +kernel
theorem de_M_sum_100 : decode cd_M_sum 100 = .ok (.lconst 1, 1) := by decide +kernel
theorem de_M_sum_101 : decode cd_M_sum 101 = .ok (.goto 40, 3) := by decide +kernel
theorem de_M_sum_104 : decode cd_M_sum 104 = .ok (.iload_n 1, 1) := by decide +kernel
theorem de_M_sum_105 : decode cd_M_sum 105 = .ok (.iconst 1, 1) := by decide +kernel
theorem de_M_sum_106 : decode cd_M_sum 106 = .ok (.if_icmp .ne 13, 3) := by decide +kernel
theorem de_M_sum_109 : decode cd_M_sum 109 = .ok (.aload_n 0, 1) := by decide +kernel
theorem de_M_sum_110 : decode cd_M_sum 110 = .ok (.getfield 28, 3) := by decide +kernel
theorem de_M_sum_113 : decode cd_M_sum 113 = .ok (.iload 4, 2) := by decide +kernel
theorem de_M_sum_115 : decode cd_M_sum 115 = .ok (.laload, 1) := by decide +kernel
theorem de_M_sum_116 : decode cd_M_sum 116 = .ok (.goto 25, 3) := by decide +kernel
theorem de_M_sum_119 : decode cd_M_sum 119 = .ok (.iload_n 1, 1) := by decide +kernel
theorem de_M_sum_120 : decode cd_M_sum 120 = .ok (.iconst 2, 1) := by decide +kernel
theorem de_M_sum_121 : decode cd_M_sum 121 = .ok (.if_icmp .ne 13, 3) := by decide +kernel
theorem de_M_sum_124 : decode cd_M_sum 124 = .ok (.aload_n 0, 1) := by decide +kernel
theorem de_M_sum_125 : decode cd_M_sum 125 = .ok (.getfield 31, 3) := by decide +kernel
theorem de_M_sum_128 : decode cd_M_sum 128 = .ok (.iload 4, 2) := by decide +kernel
theorem de_M_sum_130 : decode cd_M_sum 130 = .ok (.laload, 1) := by decide +kernel
theorem de_M_sum_131 : decode cd_M_sum 131 = .ok (.goto 10, 3) := by decide +kernel
theorem de_M_sum_134 : decode cd_M_sum 134 = .ok (.aload_n 0, 1) := by decide +kernel
theorem de_M_sum_135 : decode cd_M_sum 135 = .ok (.getfield 34, 3) := by decide +kernel
theorem de_M_sum_138 : decode cd_M_sum 138 = .ok (.iload 4, 2) := by decide +kernel
theorem de_M_sum_140 : decode cd_M_sum 140 = .ok (.laload, 1) := by decide +kernel
theorem de_M_sum_141 : decode cd_M_sum 141 = .ok (.lmul, 1) := by decide +kernel
theorem de_M_sum_142 : decode cd_M_sum 142 = .ok (.ladd, 1) := by decide +kernel
theorem de_M_sum_143 : decode cd_M_sum 143 = .ok (.lstore_n 2, 1) := by decide +kernel
theorem de_M_sum_144 : decode cd_M_sum 144 = .ok (.iinc 4 1, 3) := by decide +kernel
theorem de_M_sum_147 : decode cd_M_sum 147 = .ok (.goto (-68), 3) := by decide +kernel
theorem de_M_sum_150 : decode cd_M_sum 150 = .ok (.lload_n 2, 1) := by decide +kernel
theorem de_M_sum_151 : decode cd_M_sum 151 = .ok (.lreturn, 1) := by decide +kernel
abbrev cd_M_reckon : ByteArray := prog_11_method_12_code
abbrev yn_M_reckon : MethodName := ⟨"StabilitySumsModel", "reckon", "(I)V"⟩
theorem de_M_reckon_0 : decode cd_M_reckon 0 = .ok (.aload_n 0, 1) := by decide +kernel
theorem de_M_reckon_1 : decode cd_M_reckon 1 = .ok (.iconst 0, 1) := by decide +kernel
theorem de_M_reckon_2 : decode cd_M_reckon 2 = .ok (.invokevirtual 112, 3) := by decide +kernel
theorem de_M_reckon_5 : decode cd_M_reckon 5 = .ok (.lstore_n 2, 1) := by decide +kernel
theorem de_M_reckon_6 : decode cd_M_reckon 6 = .ok (.aload_n 0, 1) := by decide +kernel
theorem de_M_reckon_7 : decode cd_M_reckon 7 = .ok (.lload_n 2, 1) := by decide +kernel
theorem de_M_reckon_8 : decode cd_M_reckon 8 = .ok (.putfield 106, 3) := by decide +kernel
theorem de_M_reckon_11 : decode cd_M_reckon 11 = .ok (.aload_n 0, 1) := by decide +kernel
theorem de_M_reckon_12 : decode cd_M_reckon 12 = .ok (.lconst 1, 1) := by decide +kernel
theorem de_M_reckon_13 : decode cd_M_reckon 13 = .ok (.putfield 109, 3) := by decide +kernel
theorem de_M_reckon_16 : decode cd_M_reckon 16 = .ok (.iload_n 1, 1) := by decide +kernel
theorem de_M_reckon_17 : decode cd_M_reckon 17 = .ok (.iconst 1, 1) := by decide +kernel
theorem de_M_reckon_18 : decode cd_M_reckon 18 = .ok (.if_icmp .lt 25, 3) := by decide +kernel
theorem de_M_reckon_21 : decode cd_M_reckon 21 = .ok (.iload_n 1, 1) := by decide +kernel
theorem de_M_reckon_22 : decode cd_M_reckon 22 = .ok (.iconst 3, 1) := by decide +kernel
theorem de_M_reckon_23 : decode cd_M_reckon 23 = .ok (.if_icmp .gt 20, 3) := by decide +kernel
theorem de_M_reckon_26 : decode cd_M_reckon 26 = .ok (.aload_n 0, 1) := by decide +kernel
theorem de_M_reckon_27 : decode cd_M_reckon 27 = .ok (.aload_n 0, 1) := by decide +kernel
theorem de_M_reckon_28 : decode cd_M_reckon 28 = .ok (.iload_n 1, 1) := by decide +kernel
theorem de_M_reckon_29 : decode cd_M_reckon 29 = .ok (.invokevirtual 112, 3) := by decide +kernel
theorem de_M_reckon_32 : decode cd_M_reckon 32 = .ok (.putfield 106, 3) := by decide +kernel
theorem de_M_reckon_35 : decode cd_M_reckon 35 = .ok (.aload_n 0, 1) := by decide +kernel
theorem de_M_reckon_36 : decode cd_M_reckon 36 = .ok (.lload_n 2, 1) := by decide +kernel
theorem de_M_reckon_37 : decode cd_M_reckon 37 = .ok (.putfield 109, 3) := by decide +kernel
theorem de_M_reckon_40 : decode cd_M_reckon 40 = .ok (.goto 135, 3) := by decide +kernel
theorem de_M_reckon_43 : decode cd_M_reckon 43 = .ok (.iload_n 1, 1) := by decide +kernel
theorem de_M_reckon_44 : decode cd_M_reckon 44 = .ok (.iconst 4, 1) := by decide +kernel
theorem de_M_reckon_45 : decode cd_M_reckon 45 = .ok (.if_icmp .ne 25, 3) := by decide +kernel
theorem de_M_reckon_48 : decode cd_M_reckon 48 = .ok (.aload_n 0, 1) := by decide +kernel
theorem de_M_reckon_49 : decode cd_M_reckon 49 = .ok (.aload_n 0, 1) := by decide +kernel
theorem de_M_reckon_50 : decode cd_M_reckon 50 = .ok (.iconst 3, 1) := by decide +kernel
theorem de_M_reckon_51 : decode cd_M_reckon 51 = .ok (.invokevirtual 112, 3) := by decide +kernel
theorem de_M_reckon_54 : decode cd_M_reckon 54 = .ok (.aload_n 0, 1) := by decide +kernel
theorem de_M_reckon_55 : decode cd_M_reckon 55 = .ok (.invokevirtual 116, 3) := by decide +kernel
theorem de_M_reckon_58 : decode cd_M_reckon 58 = .ok (.ladd, 1) := by decide +kernel
theorem de_M_reckon_59 : decode cd_M_reckon 59 = .ok (.putfield 106, 3) := by decide +kernel
theorem de_M_reckon_62 : decode cd_M_reckon 62 = .ok (.aload_n 0, 1) := by decide +kernel
theorem de_M_reckon_63 : decode cd_M_reckon 63 = .ok (.lload_n 2, 1) := by decide +kernel
theorem de_M_reckon_64 : decode cd_M_reckon 64 = .ok (.putfield 109, 3) := by decide +kernel
theorem de_M_reckon_67 : decode cd_M_reckon 67 = .ok (.goto 108, 3) := by decide +kernel
theorem de_M_reckon_70 : decode cd_M_reckon 70 = .ok (.iload_n 1, 1) := by decide +kernel
theorem de_M_reckon_71 : decode cd_M_reckon 71 = .ok (.iconst 5, 1) := by decide +kernel
theorem de_M_reckon_72 : decode cd_M_reckon 72 = .ok (.if_icmp .ne 48, 3) := by decide +kernel
theorem de_M_reckon_75 : decode cd_M_reckon 75 = .ok (.aload_n 0, 1) := by decide +kernel
theorem de_M_reckon_76 : decode cd_M_reckon 76 = .ok (.lload_n 2, 1) := by decide +kernel
theorem de_M_reckon_77 : decode cd_M_reckon 77 = .ok (.iconst 1, 1) := by decide +kernel
theorem de_M_reckon_78 : decode cd_M_reckon 78 = .ok (.invokevirtual 120, 3) := by decide +kernel
theorem de_M_reckon_81 : decode cd_M_reckon 81 = .ok (.aload_n 0, 1) := by decide +kernel
theorem de_M_reckon_82 : decode cd_M_reckon 82 = .ok (.aload_n 0, 1) := by decide +kernel
theorem de_M_reckon_83 : decode cd_M_reckon 83 = .ok (.getfield 106, 3) := by decide +kernel
theorem de_M_reckon_86 : decode cd_M_reckon 86 = .ok (.lload_n 2, 1) := by decide +kernel
theorem de_M_reckon_87 : decode cd_M_reckon 87 = .ok (.lmul, 1) := by decide +kernel
theorem de_M_reckon_88 : decode cd_M_reckon 88 = .ok (.aload_n 0, 1) := by decide +kernel
theorem de_M_reckon_89 : decode cd_M_reckon 89 = .ok (.iconst 3, 1) := by decide +kernel
theorem de_M_reckon_90 : decode cd_M_reckon 90 = .ok (.invokevirtual 112, 3) := by decide +kernel
theorem de_M_reckon_93 : decode cd_M_reckon 93 = .ok (.aload_n 0, 1) := by decide +kernel
theorem de_M_reckon_94 : decode cd_M_reckon 94 = .ok (.invokevirtual 116, 3) := by decide +kernel
theorem de_M_reckon_97 : decode cd_M_reckon 97 = .ok (.ladd, 1) := by decide +kernel
theorem de_M_reckon_98 : decode cd_M_reckon 98 = .ok (.aload_n 0, 1) := by decide +kernel
theorem de_M_reckon_99 : decode cd_M_reckon 99 = .ok (.getfield 109, 3) := by decide +kernel
theorem de_M_reckon_102 : decode cd_M_reckon 102 = .ok (.lmul, 1) := by decide +kernel
theorem de_M_reckon_103 : decode cd_M_reckon 103 = .ok (.lsub, 1) := by decide +kernel
theorem de_M_reckon_104 : decode cd_M_reckon 104 = .ok (.putfield 106, 3) := by decide +kernel
theorem de_M_reckon_107 : decode cd_M_reckon 107 = .ok (.aload_n 0, 1) := by decide +kernel
theorem de_M_reckon_108 : decode cd_M_reckon 108 = .ok (.aload_n 0, 1) := by decide +kernel
theorem de_M_reckon_109 : decode cd_M_reckon 109 = .ok (.getfield 109, 3) := by decide +kernel
theorem de_M_reckon_112 : decode cd_M_reckon 112 = .ok (.lload_n 2, 1) := by decide +kernel
theorem de_M_reckon_113 : decode cd_M_reckon 113 = .ok (.lmul, 1) := by decide +kernel
theorem de_M_reckon_114 : decode cd_M_reckon 114 = .ok (.putfield 109, 3) := by decide +kernel
theorem de_M_reckon_117 : decode cd_M_reckon 117 = .ok (.goto 58, 3) := by decide +kernel
theorem de_M_reckon_120 : decode cd_M_reckon 120 = .ok (.iload_n 1, 1) := by decide +kernel
theorem de_M_reckon_121 : decode cd_M_reckon 121 = .ok (.bipush 6, 2) := by decide +kernel
theorem de_M_reckon_123 : decode cd_M_reckon 123 = .ok (.if_icmp .ne 12, 3) := by decide +kernel
theorem de_M_reckon_126 : decode cd_M_reckon 126 = .ok (.aload_n 0, 1) := by decide +kernel
theorem de_M_reckon_127 : decode cd_M_reckon 127 = .ok (.lload_n 2, 1) := by decide +kernel
theorem de_M_reckon_128 : decode cd_M_reckon 128 = .ok (.iconst 0, 1) := by decide +kernel
theorem de_M_reckon_129 : decode cd_M_reckon 129 = .ok (.invokevirtual 120, 3) := by decide +kernel
theorem de_M_reckon_132 : decode cd_M_reckon 132 = .ok (.goto 43, 3) := by decide +kernel
theorem de_M_reckon_135 : decode cd_M_reckon 135 = .ok (.iload_n 1, 1) := by decide +kernel
theorem de_M_reckon_136 : decode cd_M_reckon 136 = .ok (.bipush 7, 2) := by decide +kernel
theorem de_M_reckon_138 : decode cd_M_reckon 138 = .ok (.if_icmp .ne 37, 3) := by decide +kernel
theorem de_M_reckon_141 : decode cd_M_reckon 141 = .ok (.aload_n 0, 1) := by decide +kernel
theorem de_M_reckon_142 : decode cd_M_reckon 142 = .ok (.ldc2_w 124, 3) := by decide +kernel
theorem de_M_reckon_145 : decode cd_M_reckon 145 = .ok (.aload_n 0, 1) := by decide +kernel
theorem de_M_reckon_146 : decode cd_M_reckon 146 = .ok (.iconst 1, 1) := by decide +kernel
theorem de_M_reckon_147 : decode cd_M_reckon 147 = .ok (.invokevirtual 112, 3) := by decide +kernel
theorem de_M_reckon_150 : decode cd_M_reckon 150 = .ok (.lmul, 1) := by decide +kernel
theorem de_M_reckon_151 : decode cd_M_reckon 151 = .ok (.lload_n 2, 1) := by decide +kernel
theorem de_M_reckon_152 : decode cd_M_reckon 152 = .ok (.aload_n 0, 1) := by decide +kernel
theorem de_M_reckon_153 : decode cd_M_reckon 153 = .ok (.getfield 126, 3) := by decide +kernel
theorem de_M_reckon_156 : decode cd_M_reckon 156 = .ok (.aload_n 0, 1) := by decide +kernel
theorem de_M_reckon_157 : decode cd_M_reckon 157 = .ok (.getfield 60, 3) := by decide +kernel
theorem de_M_reckon_160 : decode cd_M_reckon 160 = .ok (.ladd, 1) := by decide +kernel
theorem de_M_reckon_161 : decode cd_M_reckon 161 = .ok (.lmul, 1) := by decide +kernel
theorem de_M_reckon_162 : decode cd_M_reckon 162 = .ok (.lsub, 1) := by decide +kernel
theorem de_M_reckon_163 : decode cd_M_reckon 163 = .ok (.putfield 106, 3) := by decide +kernel
theorem de_M_reckon_166 : decode cd_M_reckon 166 = .ok (.aload_n 0, 1) := by decide +kernel
theorem de_M_reckon_167 : decode cd_M_reckon 167 = .ok (.ldc2_w 124, 3) := by decide +kernel
theorem de_M_reckon_170 : decode cd_M_reckon 170 = .ok (.lload_n 2, 1) := by decide +kernel
theorem de_M_reckon_171 : decode cd_M_reckon 171 = .ok (.lmul, 1) := by decide +kernel
theorem de_M_reckon_172 : decode cd_M_reckon 172 = .ok (.putfield 109, 3) := by decide +kernel
theorem de_M_reckon_175 : decode cd_M_reckon 175 = .ok (.aload_n 0, 1) := by decide +kernel
theorem de_M_reckon_176 : decode cd_M_reckon 176 = .ok (.getfield 109, 3) := by decide +kernel
theorem de_M_reckon_179 : decode cd_M_reckon 179 = .ok (.lconst 0, 1) := by decide +kernel
theorem de_M_reckon_180 : decode cd_M_reckon 180 = .ok (.lcmp, 1) := by decide +kernel
theorem de_M_reckon_181 : decode cd_M_reckon 181 = .ok (.ifCond .ge 21, 3) := by decide +kernel
theorem de_M_reckon_184 : decode cd_M_reckon 184 = .ok (.aload_n 0, 1) := by decide +kernel
theorem de_M_reckon_185 : decode cd_M_reckon 185 = .ok (.aload_n 0, 1) := by decide +kernel
theorem de_M_reckon_186 : decode cd_M_reckon 186 = .ok (.getfield 106, 3) := by decide +kernel
theorem de_M_reckon_189 : decode cd_M_reckon 189 = .ok (.lneg, 1) := by decide +kernel
theorem de_M_reckon_190 : decode cd_M_reckon 190 = .ok (.putfield 106, 3) := by decide +kernel
theorem de_M_reckon_193 : decode cd_M_reckon 193 = .ok (.aload_n 0, 1) := by decide +kernel
theorem de_M_reckon_194 : decode cd_M_reckon 194 = .ok (.aload_n 0, 1) := by decide +kernel
theorem de_M_reckon_195 : decode cd_M_reckon 195 = .ok (.getfield 109, 3) := by decide +kernel
theorem de_M_reckon_198 : decode cd_M_reckon 198 = .ok (.lneg, 1) := by decide +kernel
theorem de_M_reckon_199 : decode cd_M_reckon 199 = .ok (.putfield 109, 3) := by decide +kernel
theorem de_M_reckon_202 : decode cd_M_reckon 202 = .ok (.return_, 1) := by decide +kernel
abbrev cd_M_free : ByteArray := prog_11_method_9_code
abbrev yn_M_free : MethodName := ⟨"StabilitySumsModel", "free", "()J"⟩
theorem de_M_free_0 : decode cd_M_free 0 = .ok (.lconst 0, 1) := by decide +kernel
theorem de_M_free_1 : decode cd_M_free 1 = .ok (.lstore_n 1, 1) := by decide +kernel
theorem de_M_free_2 : decode cd_M_free 2 = .ok (.iconst 0, 1) := by decide +kernel
theorem de_M_free_3 : decode cd_M_free 3 = .ok (.istore_n 3, 1) := by decide +kernel
theorem de_M_free_4 : decode cd_M_free 4 = .ok (.iload_n 3, 1) := by decide +kernel
theorem de_M_free_5 : decode cd_M_free 5 = .ok (.aload_n 0, 1) := by decide +kernel
theorem de_M_free_6 : decode cd_M_free 6 = .ok (.getfield 100, 3) := by decide +kernel
theorem de_M_free_9 : decode cd_M_free 9 = .ok (.if_icmp .ge 49, 3) := by decide +kernel
theorem de_M_free_12 : decode cd_M_free 12 = .ok (.lload_n 1, 1) := by decide +kernel
theorem de_M_free_13 : decode cd_M_free 13 = .ok (.aload_n 0, 1) := by decide +kernel
theorem de_M_free_14 : decode cd_M_free 14 = .ok (.getfield 43, 3) := by decide +kernel
theorem de_M_free_17 : decode cd_M_free 17 = .ok (.iload_n 3, 1) := by decide +kernel
theorem de_M_free_18 : decode cd_M_free 18 = .ok (.laload, 1) := by decide +kernel
theorem de_M_free_19 : decode cd_M_free 19 = .ok (.lconst 0, 1) := by decide +kernel
theorem de_M_free_20 : decode cd_M_free 20 = .ok (.lcmp, 1) := by decide +kernel
theorem de_M_free_21 : decode cd_M_free 21 = .ok (.ifCond .le 28, 3) := by decide +kernel
theorem de_M_free_24 : decode cd_M_free 24 = .ok (.aload_n 0, 1) := by decide +kernel
theorem de_M_free_25 : decode cd_M_free 25 = .ok (.getfield 43, 3) := by decide +kernel
theorem de_M_free_28 : decode cd_M_free 28 = .ok (.iload_n 3, 1) := by decide +kernel
theorem de_M_free_29 : decode cd_M_free 29 = .ok (.laload, 1) := by decide +kernel
theorem de_M_free_30 : decode cd_M_free 30 = .ok (.aload_n 0, 1) := by decide +kernel
theorem de_M_free_31 : decode cd_M_free 31 = .ok (.getfield 22, 3) := by decide +kernel
theorem de_M_free_34 : decode cd_M_free 34 = .ok (.iload_n 3, 1) := by decide +kernel
theorem de_M_free_35 : decode cd_M_free 35 = .ok (.laload, 1) := by decide +kernel
theorem de_M_free_36 : decode cd_M_free 36 = .ok (.lcmp, 1) := by decide +kernel
theorem de_M_free_37 : decode cd_M_free 37 = .ok (.ifCond .ge 12, 3) := by decide +kernel
theorem de_M_free_40 : decode cd_M_free 40 = .ok (.aload_n 0, 1) := by decide +kernel
theorem de_M_free_41 : decode cd_M_free 41 = .ok (.getfield 25, 3) := by decide +kernel
theorem de_M_free_44 : decode cd_M_free 44 = .ok (.iload_n 3, 1) := by decide +kernel
theorem de_M_free_45 : decode cd_M_free 45 = .ok (.laload, 1) := by decide +kernel
theorem de_M_free_46 : decode cd_M_free 46 = .ok (.goto 4, 3) := by decide +kernel
theorem de_M_free_49 : decode cd_M_free 49 = .ok (.lconst 0, 1) := by decide +kernel
theorem de_M_free_50 : decode cd_M_free 50 = .ok (.ladd, 1) := by decide +kernel
theorem de_M_free_51 : decode cd_M_free 51 = .ok (.lstore_n 1, 1) := by decide +kernel
theorem de_M_free_52 : decode cd_M_free 52 = .ok (.iinc 3 1, 3) := by decide +kernel
theorem de_M_free_55 : decode cd_M_free 55 = .ok (.goto (-51), 3) := by decide +kernel
theorem de_M_free_58 : decode cd_M_free 58 = .ok (.lload_n 1, 1) := by decide +kernel
theorem de_M_free_59 : decode cd_M_free 59 = .ok (.lreturn, 1) := by decide +kernel
abbrev cd_M_table : ByteArray := prog_11_method_10_code
abbrev yn_M_table : MethodName := ⟨"StabilitySumsModel", "table", "(JZ)V"⟩
theorem de_M_table_0 : decode cd_M_table 0 = .ok (.iconst 0, 1) := by decide +kernel
theorem de_M_table_1 : decode cd_M_table 1 = .ok (.istore 4, 2) := by decide +kernel
theorem de_M_table_3 : decode cd_M_table 3 = .ok (.iload 4, 2) := by decide +kernel
theorem de_M_table_5 : decode cd_M_table 5 = .ok (.aload_n 0, 1) := by decide +kernel
theorem de_M_table_6 : decode cd_M_table 6 = .ok (.getfield 103, 3) := by decide +kernel
theorem de_M_table_9 : decode cd_M_table 9 = .ok (.if_icmp .ge 21, 3) := by decide +kernel
theorem de_M_table_12 : decode cd_M_table 12 = .ok (.aload_n 0, 1) := by decide +kernel
theorem de_M_table_13 : decode cd_M_table 13 = .ok (.getfield 49, 3) := by decide +kernel
theorem de_M_table_16 : decode cd_M_table 16 = .ok (.iload 4, 2) := by decide +kernel
theorem de_M_table_18 : decode cd_M_table 18 = .ok (.laload, 1) := by decide +kernel
theorem de_M_table_19 : decode cd_M_table 19 = .ok (.lload_n 1, 1) := by decide +kernel
theorem de_M_table_20 : decode cd_M_table 20 = .ok (.lcmp, 1) := by decide +kernel
theorem de_M_table_21 : decode cd_M_table 21 = .ok (.ifCond .ge 9, 3) := by decide +kernel
theorem de_M_table_24 : decode cd_M_table 24 = .ok (.iinc 4 1, 3) := by decide +kernel
theorem de_M_table_27 : decode cd_M_table 27 = .ok (.goto (-24), 3) := by decide +kernel
theorem de_M_table_30 : decode cd_M_table 30 = .ok (.iload 4, 2) := by decide +kernel
theorem de_M_table_32 : decode cd_M_table 32 = .ok (.ifCond .ne 7, 3) := by decide +kernel
theorem de_M_table_35 : decode cd_M_table 35 = .ok (.iconst 0, 1) := by decide +kernel
theorem de_M_table_36 : decode cd_M_table 36 = .ok (.goto 7, 3) := by decide +kernel
theorem de_M_table_39 : decode cd_M_table 39 = .ok (.iload 4, 2) := by decide +kernel
theorem de_M_table_41 : decode cd_M_table 41 = .ok (.iconst 1, 1) := by decide +kernel
theorem de_M_table_42 : decode cd_M_table 42 = .ok (.isub, 1) := by decide +kernel
theorem de_M_table_43 : decode cd_M_table 43 = .ok (.istore 5, 2) := by decide +kernel
theorem de_M_table_45 : decode cd_M_table 45 = .ok (.iload 4, 2) := by decide +kernel
theorem de_M_table_47 : decode cd_M_table 47 = .ok (.aload_n 0, 1) := by decide +kernel
theorem de_M_table_48 : decode cd_M_table 48 = .ok (.getfield 103, 3) := by decide +kernel
theorem de_M_table_51 : decode cd_M_table 51 = .ok (.if_icmp .ne 12, 3) := by decide +kernel
theorem de_M_table_54 : decode cd_M_table 54 = .ok (.aload_n 0, 1) := by decide +kernel
theorem de_M_table_55 : decode cd_M_table 55 = .ok (.getfield 103, 3) := by decide +kernel
theorem de_M_table_58 : decode cd_M_table 58 = .ok (.iconst 1, 1) := by decide +kernel
theorem de_M_table_59 : decode cd_M_table 59 = .ok (.isub, 1) := by decide +kernel
theorem de_M_table_60 : decode cd_M_table 60 = .ok (.goto 5, 3) := by decide +kernel
theorem de_M_table_63 : decode cd_M_table 63 = .ok (.iload 4, 2) := by decide +kernel
theorem de_M_table_65 : decode cd_M_table 65 = .ok (.istore 6, 2) := by decide +kernel
theorem de_M_table_67 : decode cd_M_table 67 = .ok (.aload_n 0, 1) := by decide +kernel
theorem de_M_table_68 : decode cd_M_table 68 = .ok (.lconst 0, 1) := by decide +kernel
theorem de_M_table_69 : decode cd_M_table 69 = .ok (.putfield 106, 3) := by decide +kernel
theorem de_M_table_72 : decode cd_M_table 72 = .ok (.aload_n 0, 1) := by decide +kernel
theorem de_M_table_73 : decode cd_M_table 73 = .ok (.lconst 1, 1) := by decide +kernel
theorem de_M_table_74 : decode cd_M_table 74 = .ok (.putfield 109, 3) := by decide +kernel
theorem de_M_table_77 : decode cd_M_table 77 = .ok (.aload_n 0, 1) := by decide +kernel
theorem de_M_table_78 : decode cd_M_table 78 = .ok (.getfield 103, 3) := by decide +kernel
theorem de_M_table_81 : decode cd_M_table 81 = .ok (.ifCond .ne 4, 3) := by decide +kernel
theorem de_M_table_84 : decode cd_M_table 84 = .ok (.return_, 1) := by decide +kernel
theorem de_M_table_85 : decode cd_M_table 85 = .ok (.iload_n 3, 1) := by decide +kernel
theorem de_M_table_86 : decode cd_M_table 86 = .ok (.ifCond .eq 13, 3) := by decide +kernel
theorem de_M_table_89 : decode cd_M_table 89 = .ok (.aload_n 0, 1) := by decide +kernel
theorem de_M_table_90 : decode cd_M_table 90 = .ok (.getfield 52, 3) := by decide +kernel
theorem de_M_table_93 : decode cd_M_table 93 = .ok (.iload 5, 2) := by decide +kernel
theorem de_M_table_95 : decode cd_M_table 95 = .ok (.laload, 1) := by decide +kernel
theorem de_M_table_96 : decode cd_M_table 96 = .ok (.goto 10, 3) := by decide +kernel
theorem de_M_table_99 : decode cd_M_table 99 = .ok (.aload_n 0, 1) := by decide +kernel
theorem de_M_table_100 : decode cd_M_table 100 = .ok (.getfield 55, 3) := by decide +kernel
theorem de_M_table_103 : decode cd_M_table 103 = .ok (.iload 5, 2) := by decide +kernel
theorem de_M_table_105 : decode cd_M_table 105 = .ok (.laload, 1) := by decide +kernel
theorem de_M_table_106 : decode cd_M_table 106 = .ok (.lstore 7, 2) := by decide +kernel
theorem de_M_table_108 : decode cd_M_table 108 = .ok (.iload_n 3, 1) := by decide +kernel
theorem de_M_table_109 : decode cd_M_table 109 = .ok (.ifCond .eq 13, 3) := by decide +kernel
theorem de_M_table_112 : decode cd_M_table 112 = .ok (.aload_n 0, 1) := by decide +kernel
theorem de_M_table_113 : decode cd_M_table 113 = .ok (.getfield 52, 3) := by decide +kernel
theorem de_M_table_116 : decode cd_M_table 116 = .ok (.iload 6, 2) := by decide +kernel
theorem de_M_table_118 : decode cd_M_table 118 = .ok (.laload, 1) := by decide +kernel
theorem de_M_table_119 : decode cd_M_table 119 = .ok (.goto 10, 3) := by decide +kernel
theorem de_M_table_122 : decode cd_M_table 122 = .ok (.aload_n 0, 1) := by decide +kernel
theorem de_M_table_123 : decode cd_M_table 123 = .ok (.getfield 55, 3) := by decide +kernel
theorem de_M_table_126 : decode cd_M_table 126 = .ok (.iload 6, 2) := by decide +kernel
theorem de_M_table_128 : decode cd_M_table 128 = .ok (.laload, 1) := by decide +kernel
theorem de_M_table_129 : decode cd_M_table 129 = .ok (.lstore 9, 2) := by decide +kernel
theorem de_M_table_131 : decode cd_M_table 131 = .ok (.aload_n 0, 1) := by decide +kernel
theorem de_M_table_132 : decode cd_M_table 132 = .ok (.lload 7, 2) := by decide +kernel
theorem de_M_table_134 : decode cd_M_table 134 = .ok (.putfield 106, 3) := by decide +kernel
theorem de_M_table_137 : decode cd_M_table 137 = .ok (.iload 5, 2) := by decide +kernel
theorem de_M_table_139 : decode cd_M_table 139 = .ok (.iload 6, 2) := by decide +kernel
theorem de_M_table_141 : decode cd_M_table 141 = .ok (.if_icmp .eq 49, 3) := by decide +kernel
theorem de_M_table_144 : decode cd_M_table 144 = .ok (.aload_n 0, 1) := by decide +kernel
theorem de_M_table_145 : decode cd_M_table 145 = .ok (.aload_n 0, 1) := by decide +kernel
theorem de_M_table_146 : decode cd_M_table 146 = .ok (.getfield 49, 3) := by decide +kernel
theorem de_M_table_149 : decode cd_M_table 149 = .ok (.iload 6, 2) := by decide +kernel
theorem de_M_table_151 : decode cd_M_table 151 = .ok (.laload, 1) := by decide +kernel
theorem de_M_table_152 : decode cd_M_table 152 = .ok (.aload_n 0, 1) := by decide +kernel
theorem de_M_table_153 : decode cd_M_table 153 = .ok (.getfield 49, 3) := by decide +kernel
theorem de_M_table_156 : decode cd_M_table 156 = .ok (.iload 5, 2) := by decide +kernel
theorem de_M_table_158 : decode cd_M_table 158 = .ok (.laload, 1) := by decide +kernel
theorem de_M_table_159 : decode cd_M_table 159 = .ok (.lsub, 1) := by decide +kernel
theorem de_M_table_160 : decode cd_M_table 160 = .ok (.putfield 109, 3) := by decide +kernel
theorem de_M_table_163 : decode cd_M_table 163 = .ok (.aload_n 0, 1) := by decide +kernel
theorem de_M_table_164 : decode cd_M_table 164 = .ok (.lload 7, 2) := by decide +kernel
theorem de_M_table_166 : decode cd_M_table 166 = .ok (.aload_n 0, 1) := by decide +kernel
theorem de_M_table_167 : decode cd_M_table 167 = .ok (.getfield 109, 3) := by decide +kernel
theorem de_M_table_170 : decode cd_M_table 170 = .ok (.lmul, 1) := by decide +kernel
theorem de_M_table_171 : decode cd_M_table 171 = .ok (.lload 9, 2) := by decide +kernel
theorem de_M_table_173 : decode cd_M_table 173 = .ok (.lload 7, 2) := by decide +kernel
theorem de_M_table_175 : decode cd_M_table 175 = .ok (.lsub, 1) := by decide +kernel
theorem de_M_table_176 : decode cd_M_table 176 = .ok (.lload_n 1, 1) := by decide +kernel
theorem de_M_table_177 : decode cd_M_table 177 = .ok (.aload_n 0, 1) := by decide +kernel
theorem de_M_table_178 : decode cd_M_table 178 = .ok (.getfield 49, 3) := by decide +kernel
theorem de_M_table_181 : decode cd_M_table 181 = .ok (.iload 5, 2) := by decide +kernel
theorem de_M_table_183 : decode cd_M_table 183 = .ok (.laload, 1) := by decide +kernel
theorem de_M_table_184 : decode cd_M_table 184 = .ok (.lsub, 1) := by decide +kernel
theorem de_M_table_185 : decode cd_M_table 185 = .ok (.lmul, 1) := by decide +kernel
theorem de_M_table_186 : decode cd_M_table 186 = .ok (.ladd, 1) := by decide +kernel
theorem de_M_table_187 : decode cd_M_table 187 = .ok (.putfield 106, 3) := by decide +kernel
theorem de_M_table_190 : decode cd_M_table 190 = .ok (.return_, 1) := by decide +kernel
abbrev cd_M_common : ByteArray := prog_11_method_13_code
abbrev yn_M_common : MethodName := ⟨"StabilitySumsModel", "common", "(JJ)J"⟩
theorem de_M_common_0 : decode cd_M_common 0 = .ok (.lload_n 0, 1) := by decide +kernel
theorem de_M_common_1 : decode cd_M_common 1 = .ok (.lconst 0, 1) := by decide +kernel
theorem de_M_common_2 : decode cd_M_common 2 = .ok (.lcmp, 1) := by decide +kernel
theorem de_M_common_3 : decode cd_M_common 3 = .ok (.ifCond .ge 8, 3) := by decide +kernel
theorem de_M_common_6 : decode cd_M_common 6 = .ok (.lload_n 0, 1) := by decide +kernel
theorem de_M_common_7 : decode cd_M_common 7 = .ok (.lneg, 1) := by decide +kernel
theorem de_M_common_8 : decode cd_M_common 8 = .ok (.goto 4, 3) := by decide +kernel
theorem de_M_common_11 : decode cd_M_common 11 = .ok (.lload_n 0, 1) := by decide +kernel
theorem de_M_common_12 : decode cd_M_common 12 = .ok (.lstore 4, 2) := by decide +kernel
theorem de_M_common_14 : decode cd_M_common 14 = .ok (.lload_n 2, 1) := by decide +kernel
theorem de_M_common_15 : decode cd_M_common 15 = .ok (.lstore 6, 2) := by decide +kernel
theorem de_M_common_17 : decode cd_M_common 17 = .ok (.lload 6, 2) := by decide +kernel
theorem de_M_common_19 : decode cd_M_common 19 = .ok (.lconst 0, 1) := by decide +kernel
theorem de_M_common_20 : decode cd_M_common 20 = .ok (.lcmp, 1) := by decide +kernel
theorem de_M_common_21 : decode cd_M_common 21 = .ok (.ifCond .eq 21, 3) := by decide +kernel
theorem de_M_common_24 : decode cd_M_common 24 = .ok (.lload 4, 2) := by decide +kernel
theorem de_M_common_26 : decode cd_M_common 26 = .ok (.lload 6, 2) := by decide +kernel
theorem de_M_common_28 : decode cd_M_common 28 = .ok (.lrem, 1) := by decide +kernel
theorem de_M_common_29 : decode cd_M_common 29 = .ok (.lstore 8, 2) := by decide +kernel
theorem de_M_common_31 : decode cd_M_common 31 = .ok (.lload 6, 2) := by decide +kernel
theorem de_M_common_33 : decode cd_M_common 33 = .ok (.lstore 4, 2) := by decide +kernel
theorem de_M_common_35 : decode cd_M_common 35 = .ok (.lload 8, 2) := by decide +kernel
theorem de_M_common_37 : decode cd_M_common 37 = .ok (.lstore 6, 2) := by decide +kernel
theorem de_M_common_39 : decode cd_M_common 39 = .ok (.goto (-22), 3) := by decide +kernel
theorem de_M_common_42 : decode cd_M_common 42 = .ok (.lload 4, 2) := by decide +kernel
theorem de_M_common_44 : decode cd_M_common 44 = .ok (.lreturn, 1) := by decide +kernel
abbrev cd_M_floor : ByteArray := prog_11_method_6_code
abbrev yn_M_floor : MethodName := ⟨"StabilitySumsModel", "floor", "(JJ)J"⟩
theorem de_M_floor_0 : decode cd_M_floor 0 = .ok (.lload_n 0, 1) := by decide +kernel
theorem de_M_floor_1 : decode cd_M_floor 1 = .ok (.lload_n 2, 1) := by decide +kernel
theorem de_M_floor_2 : decode cd_M_floor 2 = .ok (.ldiv, 1) := by decide +kernel
theorem de_M_floor_3 : decode cd_M_floor 3 = .ok (.lstore 4, 2) := by decide +kernel
theorem de_M_floor_5 : decode cd_M_floor 5 = .ok (.lload_n 0, 1) := by decide +kernel
theorem de_M_floor_6 : decode cd_M_floor 6 = .ok (.lload_n 2, 1) := by decide +kernel
theorem de_M_floor_7 : decode cd_M_floor 7 = .ok (.lrem, 1) := by decide +kernel
theorem de_M_floor_8 : decode cd_M_floor 8 = .ok (.lconst 0, 1) := by decide +kernel
theorem de_M_floor_9 : decode cd_M_floor 9 = .ok (.lcmp, 1) := by decide +kernel
theorem de_M_floor_10 : decode cd_M_floor 10 = .ok (.ifCond .eq 35, 3) := by decide +kernel
theorem de_M_floor_13 : decode cd_M_floor 13 = .ok (.lload_n 0, 1) := by decide +kernel
theorem de_M_floor_14 : decode cd_M_floor 14 = .ok (.lconst 0, 1) := by decide +kernel
theorem de_M_floor_15 : decode cd_M_floor 15 = .ok (.lcmp, 1) := by decide +kernel
theorem de_M_floor_16 : decode cd_M_floor 16 = .ok (.ifCond .ge 7, 3) := by decide +kernel
theorem de_M_floor_19 : decode cd_M_floor 19 = .ok (.iconst 1, 1) := by decide +kernel
theorem de_M_floor_20 : decode cd_M_floor 20 = .ok (.goto 4, 3) := by decide +kernel
theorem de_M_floor_23 : decode cd_M_floor 23 = .ok (.iconst 0, 1) := by decide +kernel
theorem de_M_floor_24 : decode cd_M_floor 24 = .ok (.lload_n 2, 1) := by decide +kernel
theorem de_M_floor_25 : decode cd_M_floor 25 = .ok (.lconst 0, 1) := by decide +kernel
theorem de_M_floor_26 : decode cd_M_floor 26 = .ok (.lcmp, 1) := by decide +kernel
theorem de_M_floor_27 : decode cd_M_floor 27 = .ok (.ifCond .ge 7, 3) := by decide +kernel
theorem de_M_floor_30 : decode cd_M_floor 30 = .ok (.iconst 1, 1) := by decide +kernel
theorem de_M_floor_31 : decode cd_M_floor 31 = .ok (.goto 4, 3) := by decide +kernel
theorem de_M_floor_34 : decode cd_M_floor 34 = .ok (.iconst 0, 1) := by decide +kernel
theorem de_M_floor_35 : decode cd_M_floor 35 = .ok (.if_icmp .eq 10, 3) := by decide +kernel
theorem de_M_floor_38 : decode cd_M_floor 38 = .ok (.lload 4, 2) := by decide +kernel
theorem de_M_floor_40 : decode cd_M_floor 40 = .ok (.lconst 1, 1) := by decide +kernel
theorem de_M_floor_41 : decode cd_M_floor 41 = .ok (.lsub, 1) := by decide +kernel
theorem de_M_floor_42 : decode cd_M_floor 42 = .ok (.goto 5, 3) := by decide +kernel
theorem de_M_floor_45 : decode cd_M_floor 45 = .ok (.lload 4, 2) := by decide +kernel
theorem de_M_floor_47 : decode cd_M_floor 47 = .ok (.lreturn, 1) := by decide +kernel
abbrev cd_M_shear : ByteArray := prog_11_method_17_code
abbrev yn_M_shear : MethodName := ⟨"StabilitySumsModel", "shear", "(J)J"⟩
theorem de_M_shear_0 : decode cd_M_shear 0 = .ok (.lload_n 1, 1) := by decide +kernel
theorem de_M_shear_1 : decode cd_M_shear 1 = .ok (.invokestatic 147, 3) := by decide +kernel
theorem de_M_shear_4 : decode cd_M_shear 4 = .ok (.ifCond .ne 10, 3) := by decide +kernel
theorem de_M_shear_7 : decode cd_M_shear 7 = .ok (.aload_n 0, 1) := by decide +kernel
theorem de_M_shear_8 : decode cd_M_shear 8 = .ok (.iconst 1, 1) := by decide +kernel
theorem de_M_shear_9 : decode cd_M_shear 9 = .ok (.invokevirtual 151, 3) := by decide +kernel
theorem de_M_shear_12 : decode cd_M_shear 12 = .ok (.i2l, 1) := by decide +kernel
theorem de_M_shear_13 : decode cd_M_shear 13 = .ok (.lreturn, 1) := by decide +kernel
theorem de_M_shear_14 : decode cd_M_shear 14 = .ok (.aload_n 0, 1) := by decide +kernel
theorem de_M_shear_15 : decode cd_M_shear 15 = .ok (.iconst 0, 1) := by decide +kernel
theorem de_M_shear_16 : decode cd_M_shear 16 = .ok (.putfield 87, 3) := by decide +kernel
theorem de_M_shear_19 : decode cd_M_shear 19 = .ok (.aload_n 0, 1) := by decide +kernel
theorem de_M_shear_20 : decode cd_M_shear 20 = .ok (.invokevirtual 129, 3) := by decide +kernel
theorem de_M_shear_23 : decode cd_M_shear 23 = .ok (.aload_n 0, 1) := by decide +kernel
theorem de_M_shear_24 : decode cd_M_shear 24 = .ok (.lload_n 1, 1) := by decide +kernel
theorem de_M_shear_25 : decode cd_M_shear 25 = .ok (.invokevirtual 155, 3) := by decide +kernel
theorem de_M_shear_28 : decode cd_M_shear 28 = .ok (.lreturn, 1) := by decide +kernel
abbrev cd_M_isPlace : ByteArray := prog_11_method_5_code
abbrev yn_M_isPlace : MethodName := ⟨"StabilitySumsModel", "isPlace", "(J)Z"⟩
theorem de_M_isPlace_0 : decode cd_M_isPlace 0 = .ok (.lload_n 0, 1) := by decide +kernel
theorem de_M_isPlace_1 : decode cd_M_isPlace 1 = .ok (.ldc2_w 91, 3) := by decide +kernel
theorem de_M_isPlace_4 : decode cd_M_isPlace 4 = .ok (.ldc2_w 58, 3) := by decide +kernel
theorem de_M_isPlace_7 : decode cd_M_isPlace 7 = .ok (.invokestatic 93, 3) := by decide +kernel
theorem de_M_isPlace_10 : decode cd_M_isPlace 10 = .ok (.ireturn, 1) := by decide +kernel
abbrev cd_M_in : ByteArray := prog_11_method_4_code
abbrev yn_M_in : MethodName := ⟨"StabilitySumsModel", "in", "(JJJ)Z"⟩
theorem de_M_in_0 : decode cd_M_in 0 = .ok (.lload_n 0, 1) := by decide +kernel
theorem de_M_in_1 : decode cd_M_in 1 = .ok (.lload_n 2, 1) := by decide +kernel
theorem de_M_in_2 : decode cd_M_in 2 = .ok (.lcmp, 1) := by decide +kernel
theorem de_M_in_3 : decode cd_M_in 3 = .ok (.ifCond .lt 14, 3) := by decide +kernel
theorem de_M_in_6 : decode cd_M_in 6 = .ok (.lload_n 0, 1) := by decide +kernel
theorem de_M_in_7 : decode cd_M_in 7 = .ok (.lload 4, 2) := by decide +kernel
theorem de_M_in_9 : decode cd_M_in 9 = .ok (.lcmp, 1) := by decide +kernel
theorem de_M_in_10 : decode cd_M_in 10 = .ok (.ifCond .gt 7, 3) := by decide +kernel
theorem de_M_in_13 : decode cd_M_in 13 = .ok (.iconst 1, 1) := by decide +kernel
theorem de_M_in_14 : decode cd_M_in 14 = .ok (.goto 4, 3) := by decide +kernel
theorem de_M_in_17 : decode cd_M_in 17 = .ok (.iconst 0, 1) := by decide +kernel
theorem de_M_in_18 : decode cd_M_in 18 = .ok (.ireturn, 1) := by decide +kernel
abbrev cd_M_fails : ByteArray := prog_11_method_3_code
abbrev yn_M_fails : MethodName := ⟨"StabilitySumsModel", "fails", "(I)I"⟩
theorem de_M_fails_0 : decode cd_M_fails 0 = .ok (.aload_n 0, 1) := by decide +kernel
theorem de_M_fails_1 : decode cd_M_fails 1 = .ok (.iload_n 1, 1) := by decide +kernel
theorem de_M_fails_2 : decode cd_M_fails 2 = .ok (.putfield 87, 3) := by decide +kernel
theorem de_M_fails_5 : decode cd_M_fails 5 = .ok (.iconst 0, 1) := by decide +kernel
theorem de_M_fails_6 : decode cd_M_fails 6 = .ok (.ireturn, 1) := by decide +kernel
abbrev cd_M_shearAt : ByteArray := prog_11_method_15_code
abbrev yn_M_shearAt : MethodName := ⟨"StabilitySumsModel", "shearAt", "(J)J"⟩
theorem de_M_shearAt_0 : decode cd_M_shearAt 0 = .ok (.lconst 0, 1) := by decide +kernel
theorem de_M_shearAt_1 : decode cd_M_shearAt 1 = .ok (.lstore_n 3, 1) := by decide +kernel
theorem de_M_shearAt_2 : decode cd_M_shearAt 2 = .ok (.iconst 0, 1) := by decide +kernel
theorem de_M_shearAt_3 : decode cd_M_shearAt 3 = .ok (.istore 5, 2) := by decide +kernel
theorem de_M_shearAt_5 : decode cd_M_shearAt 5 = .ok (.iload 5, 2) := by decide +kernel
theorem de_M_shearAt_7 : decode cd_M_shearAt 7 = .ok (.aload_n 0, 1) := by decide +kernel
theorem de_M_shearAt_8 : decode cd_M_shearAt 8 = .ok (.getfield 97, 3) := by decide +kernel
theorem de_M_shearAt_11 : decode cd_M_shearAt 11 = .ok (.if_icmp .ge 35, 3) := by decide +kernel
theorem de_M_shearAt_14 : decode cd_M_shearAt 14 = .ok (.lload_n 3, 1) := by decide +kernel
theorem de_M_shearAt_15 : decode cd_M_shearAt 15 = .ok (.aload_n 0, 1) := by decide +kernel
theorem de_M_shearAt_16 : decode cd_M_shearAt 16 = .ok (.getfield 13, 3) := by decide +kernel
theorem de_M_shearAt_19 : decode cd_M_shearAt 19 = .ok (.iload 5, 2) := by decide +kernel
theorem de_M_shearAt_21 : decode cd_M_shearAt 21 = .ok (.laload, 1) := by decide +kernel
theorem de_M_shearAt_22 : decode cd_M_shearAt 22 = .ok (.lload_n 1, 1) := by decide +kernel
theorem de_M_shearAt_23 : decode cd_M_shearAt 23 = .ok (.lcmp, 1) := by decide +kernel
theorem de_M_shearAt_24 : decode cd_M_shearAt 24 = .ok (.ifCond .ge 13, 3) := by decide +kernel
theorem de_M_shearAt_27 : decode cd_M_shearAt 27 = .ok (.aload_n 0, 1) := by decide +kernel
theorem de_M_shearAt_28 : decode cd_M_shearAt 28 = .ok (.getfield 40, 3) := by decide +kernel
theorem de_M_shearAt_31 : decode cd_M_shearAt 31 = .ok (.iload 5, 2) := by decide +kernel
theorem de_M_shearAt_33 : decode cd_M_shearAt 33 = .ok (.laload, 1) := by decide +kernel
theorem de_M_shearAt_34 : decode cd_M_shearAt 34 = .ok (.goto 4, 3) := by decide +kernel
theorem de_M_shearAt_37 : decode cd_M_shearAt 37 = .ok (.lconst 0, 1) := by decide +kernel
theorem de_M_shearAt_38 : decode cd_M_shearAt 38 = .ok (.ladd, 1) := by decide +kernel
theorem de_M_shearAt_39 : decode cd_M_shearAt 39 = .ok (.lstore_n 3, 1) := by decide +kernel
theorem de_M_shearAt_40 : decode cd_M_shearAt 40 = .ok (.iinc 5 1, 3) := by decide +kernel
theorem de_M_shearAt_43 : decode cd_M_shearAt 43 = .ok (.goto (-38), 3) := by decide +kernel
theorem de_M_shearAt_46 : decode cd_M_shearAt 46 = .ok (.iconst 0, 1) := by decide +kernel
theorem de_M_shearAt_47 : decode cd_M_shearAt 47 = .ok (.istore 5, 2) := by decide +kernel
theorem de_M_shearAt_49 : decode cd_M_shearAt 49 = .ok (.iload 5, 2) := by decide +kernel
theorem de_M_shearAt_51 : decode cd_M_shearAt 51 = .ok (.aload_n 0, 1) := by decide +kernel
theorem de_M_shearAt_52 : decode cd_M_shearAt 52 = .ok (.getfield 100, 3) := by decide +kernel
theorem de_M_shearAt_55 : decode cd_M_shearAt 55 = .ok (.if_icmp .ge 35, 3) := by decide +kernel
theorem de_M_shearAt_58 : decode cd_M_shearAt 58 = .ok (.lload_n 3, 1) := by decide +kernel
theorem de_M_shearAt_59 : decode cd_M_shearAt 59 = .ok (.aload_n 0, 1) := by decide +kernel
theorem de_M_shearAt_60 : decode cd_M_shearAt 60 = .ok (.getfield 28, 3) := by decide +kernel
theorem de_M_shearAt_63 : decode cd_M_shearAt 63 = .ok (.iload 5, 2) := by decide +kernel
theorem de_M_shearAt_65 : decode cd_M_shearAt 65 = .ok (.laload, 1) := by decide +kernel
theorem de_M_shearAt_66 : decode cd_M_shearAt 66 = .ok (.lload_n 1, 1) := by decide +kernel
theorem de_M_shearAt_67 : decode cd_M_shearAt 67 = .ok (.lcmp, 1) := by decide +kernel
theorem de_M_shearAt_68 : decode cd_M_shearAt 68 = .ok (.ifCond .ge 13, 3) := by decide +kernel
theorem de_M_shearAt_71 : decode cd_M_shearAt 71 = .ok (.aload_n 0, 1) := by decide +kernel
theorem de_M_shearAt_72 : decode cd_M_shearAt 72 = .ok (.getfield 43, 3) := by decide +kernel
theorem de_M_shearAt_75 : decode cd_M_shearAt 75 = .ok (.iload 5, 2) := by decide +kernel
theorem de_M_shearAt_77 : decode cd_M_shearAt 77 = .ok (.laload, 1) := by decide +kernel
theorem de_M_shearAt_78 : decode cd_M_shearAt 78 = .ok (.goto 4, 3) := by decide +kernel
theorem de_M_shearAt_81 : decode cd_M_shearAt 81 = .ok (.lconst 0, 1) := by decide +kernel
theorem de_M_shearAt_82 : decode cd_M_shearAt 82 = .ok (.ladd, 1) := by decide +kernel
theorem de_M_shearAt_83 : decode cd_M_shearAt 83 = .ok (.lstore_n 3, 1) := by decide +kernel
theorem de_M_shearAt_84 : decode cd_M_shearAt 84 = .ok (.iinc 5 1, 3) := by decide +kernel
theorem de_M_shearAt_87 : decode cd_M_shearAt 87 = .ok (.goto (-38), 3) := by decide +kernel
theorem de_M_shearAt_90 : decode cd_M_shearAt 90 = .ok (.lload_n 1, 1) := by decide +kernel
theorem de_M_shearAt_91 : decode cd_M_shearAt 91 = .ok (.aload_n 0, 1) := by decide +kernel
theorem de_M_shearAt_92 : decode cd_M_shearAt 92 = .ok (.getfield 126, 3) := by decide +kernel
theorem de_M_shearAt_95 : decode cd_M_shearAt 95 = .ok (.lcmp, 1) := by decide +kernel
theorem de_M_shearAt_96 : decode cd_M_shearAt 96 = .ok (.ifCond .ge 7, 3) := by decide +kernel
theorem de_M_shearAt_99 : decode cd_M_shearAt 99 = .ok (.lconst 0, 1) := by decide +kernel
theorem de_M_shearAt_100 : decode cd_M_shearAt 100 = .ok (.goto 30, 3) := by decide +kernel
theorem de_M_shearAt_103 : decode cd_M_shearAt 103 = .ok (.lload_n 1, 1) := by decide +kernel
theorem de_M_shearAt_104 : decode cd_M_shearAt 104 = .ok (.aload_n 0, 1) := by decide +kernel
theorem de_M_shearAt_105 : decode cd_M_shearAt 105 = .ok (.getfield 60, 3) := by decide +kernel
theorem de_M_shearAt_108 : decode cd_M_shearAt 108 = .ok (.lcmp, 1) := by decide +kernel
theorem de_M_shearAt_109 : decode cd_M_shearAt 109 = .ok (.ifCond .le 15, 3) := by decide +kernel
theorem de_M_shearAt_112 : decode cd_M_shearAt 112 = .ok (.aload_n 0, 1) := by decide +kernel
theorem de_M_shearAt_113 : decode cd_M_shearAt 113 = .ok (.getfield 60, 3) := by decide +kernel
theorem de_M_shearAt_116 : decode cd_M_shearAt 116 = .ok (.aload_n 0, 1) := by decide +kernel
theorem de_M_shearAt_117 : decode cd_M_shearAt 117 = .ok (.getfield 126, 3) := by decide +kernel
theorem de_M_shearAt_120 : decode cd_M_shearAt 120 = .ok (.lsub, 1) := by decide +kernel
theorem de_M_shearAt_121 : decode cd_M_shearAt 121 = .ok (.goto 9, 3) := by decide +kernel
theorem de_M_shearAt_124 : decode cd_M_shearAt 124 = .ok (.lload_n 1, 1) := by decide +kernel
theorem de_M_shearAt_125 : decode cd_M_shearAt 125 = .ok (.aload_n 0, 1) := by decide +kernel
theorem de_M_shearAt_126 : decode cd_M_shearAt 126 = .ok (.getfield 126, 3) := by decide +kernel
theorem de_M_shearAt_129 : decode cd_M_shearAt 129 = .ok (.lsub, 1) := by decide +kernel
theorem de_M_shearAt_130 : decode cd_M_shearAt 130 = .ok (.lstore 5, 2) := by decide +kernel
theorem de_M_shearAt_132 : decode cd_M_shearAt 132 = .ok (.lload_n 3, 1) := by decide +kernel
theorem de_M_shearAt_133 : decode cd_M_shearAt 133 = .ok (.aload_n 0, 1) := by decide +kernel
theorem de_M_shearAt_134 : decode cd_M_shearAt 134 = .ok (.getfield 60, 3) := by decide +kernel
theorem de_M_shearAt_137 : decode cd_M_shearAt 137 = .ok (.aload_n 0, 1) := by decide +kernel
theorem de_M_shearAt_138 : decode cd_M_shearAt 138 = .ok (.getfield 126, 3) := by decide +kernel
theorem de_M_shearAt_141 : decode cd_M_shearAt 141 = .ok (.lsub, 1) := by decide +kernel
theorem de_M_shearAt_142 : decode cd_M_shearAt 142 = .ok (.lmul, 1) := by decide +kernel
theorem de_M_shearAt_143 : decode cd_M_shearAt 143 = .ok (.aload_n 0, 1) := by decide +kernel
theorem de_M_shearAt_144 : decode cd_M_shearAt 144 = .ok (.iconst 0, 1) := by decide +kernel
theorem de_M_shearAt_145 : decode cd_M_shearAt 145 = .ok (.invokevirtual 112, 3) := by decide +kernel
theorem de_M_shearAt_148 : decode cd_M_shearAt 148 = .ok (.lload 5, 2) := by decide +kernel
theorem de_M_shearAt_150 : decode cd_M_shearAt 150 = .ok (.lmul, 1) := by decide +kernel
theorem de_M_shearAt_151 : decode cd_M_shearAt 151 = .ok (.lsub, 1) := by decide +kernel
theorem de_M_shearAt_152 : decode cd_M_shearAt 152 = .ok (.aload_n 0, 1) := by decide +kernel
theorem de_M_shearAt_153 : decode cd_M_shearAt 153 = .ok (.getfield 60, 3) := by decide +kernel
theorem de_M_shearAt_156 : decode cd_M_shearAt 156 = .ok (.aload_n 0, 1) := by decide +kernel
theorem de_M_shearAt_157 : decode cd_M_shearAt 157 = .ok (.getfield 126, 3) := by decide +kernel
theorem de_M_shearAt_160 : decode cd_M_shearAt 160 = .ok (.lsub, 1) := by decide +kernel
theorem de_M_shearAt_161 : decode cd_M_shearAt 161 = .ok (.invokestatic 144, 3) := by decide +kernel
theorem de_M_shearAt_164 : decode cd_M_shearAt 164 = .ok (.lreturn, 1) := by decide +kernel
abbrev cd_M_bending : ByteArray := prog_11_method_18_code
abbrev yn_M_bending : MethodName := ⟨"StabilitySumsModel", "bending", "(J)J"⟩
theorem de_M_bending_0 : decode cd_M_bending 0 = .ok (.lload_n 1, 1) := by decide +kernel
theorem de_M_bending_1 : decode cd_M_bending 1 = .ok (.invokestatic 147, 3) := by decide +kernel
theorem de_M_bending_4 : decode cd_M_bending 4 = .ok (.ifCond .ne 10, 3) := by decide +kernel
theorem de_M_bending_7 : decode cd_M_bending 7 = .ok (.aload_n 0, 1) := by decide +kernel
theorem de_M_bending_8 : decode cd_M_bending 8 = .ok (.iconst 1, 1) := by decide +kernel
theorem de_M_bending_9 : decode cd_M_bending 9 = .ok (.invokevirtual 151, 3) := by decide +kernel
theorem de_M_bending_12 : decode cd_M_bending 12 = .ok (.i2l, 1) := by decide +kernel
theorem de_M_bending_13 : decode cd_M_bending 13 = .ok (.lreturn, 1) := by decide +kernel
theorem de_M_bending_14 : decode cd_M_bending 14 = .ok (.aload_n 0, 1) := by decide +kernel
theorem de_M_bending_15 : decode cd_M_bending 15 = .ok (.iconst 0, 1) := by decide +kernel
theorem de_M_bending_16 : decode cd_M_bending 16 = .ok (.putfield 87, 3) := by decide +kernel
theorem de_M_bending_19 : decode cd_M_bending 19 = .ok (.aload_n 0, 1) := by decide +kernel
theorem de_M_bending_20 : decode cd_M_bending 20 = .ok (.invokevirtual 129, 3) := by decide +kernel
theorem de_M_bending_23 : decode cd_M_bending 23 = .ok (.aload_n 0, 1) := by decide +kernel
theorem de_M_bending_24 : decode cd_M_bending 24 = .ok (.lload_n 1, 1) := by decide +kernel
theorem de_M_bending_25 : decode cd_M_bending 25 = .ok (.invokevirtual 159, 3) := by decide +kernel
theorem de_M_bending_28 : decode cd_M_bending 28 = .ok (.lreturn, 1) := by decide +kernel
abbrev cd_M_bendingAt : ByteArray := prog_11_method_16_code
abbrev yn_M_bendingAt : MethodName := ⟨"StabilitySumsModel", "bendingAt", "(J)J"⟩
theorem de_M_bendingAt_0 : decode cd_M_bendingAt 0 = .ok (.lconst 0, 1) := by decide +kernel
theorem de_M_bendingAt_1 : decode cd_M_bendingAt 1 = .ok (.lstore_n 3, 1) := by decide +kernel
theorem de_M_bendingAt_2 : decode cd_M_bendingAt 2 = .ok (.iconst 0, 1) := by decide +kernel
theorem de_M_bendingAt_3 : decode cd_M_bendingAt 3 = .ok (.istore 5, 2) := by decide +kernel
theorem de_M_bendingAt_5 : decode cd_M_bendingAt 5 = .ok (.iload 5, 2) := by decide +kernel
theorem de_M_bendingAt_7 : decode cd_M_bendingAt 7 = .ok (.aload_n 0, 1) := by decide +kernel
theorem de_M_bendingAt_8 : decode cd_M_bendingAt 8 = .ok (.getfield 97, 3) := by decide +kernel
theorem de_M_bendingAt_11 : decode cd_M_bendingAt 11 = .ok (.if_icmp .ge 45, 3) := by decide +kernel
theorem de_M_bendingAt_14 : decode cd_M_bendingAt 14 = .ok (.lload_n 3, 1) := by decide +kernel
theorem de_M_bendingAt_15 : decode cd_M_bendingAt 15 = .ok (.aload_n 0, 1) := by decide +kernel
theorem de_M_bendingAt_16 : decode cd_M_bendingAt 16 = .ok (.getfield 13, 3) := by decide +kernel
theorem de_M_bendingAt_19 : decode cd_M_bendingAt 19 = .ok (.iload 5, 2) := by decide +kernel
theorem de_M_bendingAt_21 : decode cd_M_bendingAt 21 = .ok (.laload, 1) := by decide +kernel
theorem de_M_bendingAt_22 : decode cd_M_bendingAt 22 = .ok (.lload_n 1, 1) := by decide +kernel
theorem de_M_bendingAt_23 : decode cd_M_bendingAt 23 = .ok (.lcmp, 1) := by decide +kernel
theorem de_M_bendingAt_24 : decode cd_M_bendingAt 24 = .ok (.ifCond .ge 23, 3) := by decide +kernel
theorem de_M_bendingAt_27 : decode cd_M_bendingAt 27 = .ok (.aload_n 0, 1) := by decide +kernel
theorem de_M_bendingAt_28 : decode cd_M_bendingAt 28 = .ok (.getfield 40, 3) := by decide +kernel
theorem de_M_bendingAt_31 : decode cd_M_bendingAt 31 = .ok (.iload 5, 2) := by decide +kernel
theorem de_M_bendingAt_33 : decode cd_M_bendingAt 33 = .ok (.laload, 1) := by decide +kernel
theorem de_M_bendingAt_34 : decode cd_M_bendingAt 34 = .ok (.lload_n 1, 1) := by decide +kernel
theorem de_M_bendingAt_35 : decode cd_M_bendingAt 35 = .ok (.aload_n 0, 1) := by decide +kernel
theorem de_M_bendingAt_36 : decode cd_M_bendingAt 36 = .ok (.getfield 13, 3) := by decide +kernel
theorem de_M_bendingAt_39 : decode cd_M_bendingAt 39 = .ok (.iload 5, 2) := by decide +kernel
theorem de_M_bendingAt_41 : decode cd_M_bendingAt 41 = .ok (.laload, 1) := by decide +kernel
theorem de_M_bendingAt_42 : decode cd_M_bendingAt 42 = .ok (.lsub, 1) := by decide +kernel
theorem de_M_bendingAt_43 : decode cd_M_bendingAt 43 = .ok (.lmul, 1) := by decide +kernel
theorem de_M_bendingAt_44 : decode cd_M_bendingAt 44 = .ok (.goto 4, 3) := by decide +kernel
theorem de_M_bendingAt_47 : decode cd_M_bendingAt 47 = .ok (.lconst 0, 1) := by decide +kernel
theorem de_M_bendingAt_48 : decode cd_M_bendingAt 48 = .ok (.ladd, 1) := by decide +kernel
theorem de_M_bendingAt_49 : decode cd_M_bendingAt 49 = .ok (.lstore_n 3, 1) := by decide +kernel
theorem de_M_bendingAt_50 : decode cd_M_bendingAt 50 = .ok (.iinc 5 1, 3) := by decide +kernel
theorem de_M_bendingAt_53 : decode cd_M_bendingAt 53 = .ok (.goto (-48), 3) := by decide +kernel
theorem de_M_bendingAt_56 : decode cd_M_bendingAt 56 = .ok (.iconst 0, 1) := by decide +kernel
theorem de_M_bendingAt_57 : decode cd_M_bendingAt 57 = .ok (.istore 5, 2) := by decide +kernel
theorem de_M_bendingAt_59 : decode cd_M_bendingAt 59 = .ok (.iload 5, 2) := by decide +kernel
theorem de_M_bendingAt_61 : decode cd_M_bendingAt 61 = .ok (.aload_n 0, 1) := by decide +kernel
theorem de_M_bendingAt_62 : decode cd_M_bendingAt 62 = .ok (.getfield 100, 3) := by decide +kernel
theorem de_M_bendingAt_65 : decode cd_M_bendingAt 65 = .ok (.if_icmp .ge 45, 3) := by decide +kernel
theorem de_M_bendingAt_68 : decode cd_M_bendingAt 68 = .ok (.lload_n 3, 1) := by decide +kernel
theorem de_M_bendingAt_69 : decode cd_M_bendingAt 69 = .ok (.aload_n 0, 1) := by decide +kernel
theorem de_M_bendingAt_70 : decode cd_M_bendingAt 70 = .ok (.getfield 28, 3) := by decide +kernel
theorem de_M_bendingAt_73 : decode cd_M_bendingAt 73 = .ok (.iload 5, 2) := by decide +kernel
theorem de_M_bendingAt_75 : decode cd_M_bendingAt 75 = .ok (.laload, 1) := by decide +kernel
theorem de_M_bendingAt_76 : decode cd_M_bendingAt 76 = .ok (.lload_n 1, 1) := by decide +kernel
theorem de_M_bendingAt_77 : decode cd_M_bendingAt 77 = .ok (.lcmp, 1) := by decide +kernel
theorem de_M_bendingAt_78 : decode cd_M_bendingAt 78 = .ok (.ifCond .ge 23, 3) := by decide +kernel
theorem de_M_bendingAt_81 : decode cd_M_bendingAt 81 = .ok (.aload_n 0, 1) := by decide +kernel
theorem de_M_bendingAt_82 : decode cd_M_bendingAt 82 = .ok (.getfield 43, 3) := by decide +kernel
theorem de_M_bendingAt_85 : decode cd_M_bendingAt 85 = .ok (.iload 5, 2) := by decide +kernel
theorem de_M_bendingAt_87 : decode cd_M_bendingAt 87 = .ok (.laload, 1) := by decide +kernel
theorem de_M_bendingAt_88 : decode cd_M_bendingAt 88 = .ok (.lload_n 1, 1) := by decide +kernel
theorem de_M_bendingAt_89 : decode cd_M_bendingAt 89 = .ok (.aload_n 0, 1) := by decide +kernel
theorem de_M_bendingAt_90 : decode cd_M_bendingAt 90 = .ok (.getfield 28, 3) := by decide +kernel
theorem de_M_bendingAt_93 : decode cd_M_bendingAt 93 = .ok (.iload 5, 2) := by decide +kernel
theorem de_M_bendingAt_95 : decode cd_M_bendingAt 95 = .ok (.laload, 1) := by decide +kernel
theorem de_M_bendingAt_96 : decode cd_M_bendingAt 96 = .ok (.lsub, 1) := by decide +kernel
theorem de_M_bendingAt_97 : decode cd_M_bendingAt 97 = .ok (.lmul, 1) := by decide +kernel
theorem de_M_bendingAt_98 : decode cd_M_bendingAt 98 = .ok (.goto 4, 3) := by decide +kernel
theorem de_M_bendingAt_101 : decode cd_M_bendingAt 101 = .ok (.lconst 0, 1) := by decide +kernel
theorem de_M_bendingAt_102 : decode cd_M_bendingAt 102 = .ok (.ladd, 1) := by decide +kernel
theorem de_M_bendingAt_103 : decode cd_M_bendingAt 103 = .ok (.lstore_n 3, 1) := by decide +kernel
theorem de_M_bendingAt_104 : decode cd_M_bendingAt 104 = .ok (.iinc 5 1, 3) := by decide +kernel
theorem de_M_bendingAt_107 : decode cd_M_bendingAt 107 = .ok (.goto (-48), 3) := by decide +kernel
theorem de_M_bendingAt_110 : decode cd_M_bendingAt 110 = .ok (.aload_n 0, 1) := by decide +kernel
theorem de_M_bendingAt_111 : decode cd_M_bendingAt 111 = .ok (.iconst 0, 1) := by decide +kernel
theorem de_M_bendingAt_112 : decode cd_M_bendingAt 112 = .ok (.invokevirtual 112, 3) := by decide +kernel
theorem de_M_bendingAt_115 : decode cd_M_bendingAt 115 = .ok (.lstore 5, 2) := by decide +kernel
theorem de_M_bendingAt_117 : decode cd_M_bendingAt 117 = .ok (.lload_n 1, 1) := by decide +kernel
theorem de_M_bendingAt_118 : decode cd_M_bendingAt 118 = .ok (.aload_n 0, 1) := by decide +kernel
theorem de_M_bendingAt_119 : decode cd_M_bendingAt 119 = .ok (.getfield 126, 3) := by decide +kernel
theorem de_M_bendingAt_122 : decode cd_M_bendingAt 122 = .ok (.lcmp, 1) := by decide +kernel
theorem de_M_bendingAt_123 : decode cd_M_bendingAt 123 = .ok (.ifCond .gt 5, 3) := by decide +kernel
theorem de_M_bendingAt_126 : decode cd_M_bendingAt 126 = .ok (.lload_n 3, 1) := by decide +kernel
theorem de_M_bendingAt_127 : decode cd_M_bendingAt 127 = .ok (.lreturn, 1) := by decide +kernel
theorem de_M_bendingAt_128 : decode cd_M_bendingAt 128 = .ok (.lload_n 1, 1) := by decide +kernel
theorem de_M_bendingAt_129 : decode cd_M_bendingAt 129 = .ok (.aload_n 0, 1) := by decide +kernel
theorem de_M_bendingAt_130 : decode cd_M_bendingAt 130 = .ok (.getfield 60, 3) := by decide +kernel
theorem de_M_bendingAt_133 : decode cd_M_bendingAt 133 = .ok (.lcmp, 1) := by decide +kernel
theorem de_M_bendingAt_134 : decode cd_M_bendingAt 134 = .ok (.ifCond .le 34, 3) := by decide +kernel
theorem de_M_bendingAt_137 : decode cd_M_bendingAt 137 = .ok (.ldc2_w 124, 3) := by decide +kernel
theorem de_M_bendingAt_140 : decode cd_M_bendingAt 140 = .ok (.lload_n 3, 1) := by decide +kernel
theorem de_M_bendingAt_141 : decode cd_M_bendingAt 141 = .ok (.lmul, 1) := by decide +kernel
theorem de_M_bendingAt_142 : decode cd_M_bendingAt 142 = .ok (.lload 5, 2) := by decide +kernel
theorem de_M_bendingAt_144 : decode cd_M_bendingAt 144 = .ok (.ldc2_w 124, 3) := by decide +kernel
theorem de_M_bendingAt_147 : decode cd_M_bendingAt 147 = .ok (.lload_n 1, 1) := by decide +kernel
theorem de_M_bendingAt_148 : decode cd_M_bendingAt 148 = .ok (.lmul, 1) := by decide +kernel
theorem de_M_bendingAt_149 : decode cd_M_bendingAt 149 = .ok (.aload_n 0, 1) := by decide +kernel
theorem de_M_bendingAt_150 : decode cd_M_bendingAt 150 = .ok (.getfield 126, 3) := by decide +kernel
theorem de_M_bendingAt_153 : decode cd_M_bendingAt 153 = .ok (.lsub, 1) := by decide +kernel
theorem de_M_bendingAt_154 : decode cd_M_bendingAt 154 = .ok (.aload_n 0, 1) := by decide +kernel
theorem de_M_bendingAt_155 : decode cd_M_bendingAt 155 = .ok (.getfield 60, 3) := by decide +kernel
theorem de_M_bendingAt_158 : decode cd_M_bendingAt 158 = .ok (.lsub, 1) := by decide +kernel
theorem de_M_bendingAt_159 : decode cd_M_bendingAt 159 = .ok (.lmul, 1) := by decide +kernel
theorem de_M_bendingAt_160 : decode cd_M_bendingAt 160 = .ok (.lsub, 1) := by decide +kernel
theorem de_M_bendingAt_161 : decode cd_M_bendingAt 161 = .ok (.ldc2_w 124, 3) := by decide +kernel
theorem de_M_bendingAt_164 : decode cd_M_bendingAt 164 = .ok (.invokestatic 144, 3) := by decide +kernel
theorem de_M_bendingAt_167 : decode cd_M_bendingAt 167 = .ok (.lreturn, 1) := by decide +kernel
theorem de_M_bendingAt_168 : decode cd_M_bendingAt 168 = .ok (.ldc2_w 124, 3) := by decide +kernel
theorem de_M_bendingAt_171 : decode cd_M_bendingAt 171 = .ok (.lload_n 3, 1) := by decide +kernel
theorem de_M_bendingAt_172 : decode cd_M_bendingAt 172 = .ok (.lmul, 1) := by decide +kernel
theorem de_M_bendingAt_173 : decode cd_M_bendingAt 173 = .ok (.aload_n 0, 1) := by decide +kernel
theorem de_M_bendingAt_174 : decode cd_M_bendingAt 174 = .ok (.getfield 60, 3) := by decide +kernel
theorem de_M_bendingAt_177 : decode cd_M_bendingAt 177 = .ok (.aload_n 0, 1) := by decide +kernel
theorem de_M_bendingAt_178 : decode cd_M_bendingAt 178 = .ok (.getfield 126, 3) := by decide +kernel
theorem de_M_bendingAt_181 : decode cd_M_bendingAt 181 = .ok (.lsub, 1) := by decide +kernel
theorem de_M_bendingAt_182 : decode cd_M_bendingAt 182 = .ok (.lmul, 1) := by decide +kernel
theorem de_M_bendingAt_183 : decode cd_M_bendingAt 183 = .ok (.lload 5, 2) := by decide +kernel
theorem de_M_bendingAt_185 : decode cd_M_bendingAt 185 = .ok (.lload_n 1, 1) := by decide +kernel
theorem de_M_bendingAt_186 : decode cd_M_bendingAt 186 = .ok (.aload_n 0, 1) := by decide +kernel
theorem de_M_bendingAt_187 : decode cd_M_bendingAt 187 = .ok (.getfield 126, 3) := by decide +kernel
theorem de_M_bendingAt_190 : decode cd_M_bendingAt 190 = .ok (.lsub, 1) := by decide +kernel
theorem de_M_bendingAt_191 : decode cd_M_bendingAt 191 = .ok (.lmul, 1) := by decide +kernel
theorem de_M_bendingAt_192 : decode cd_M_bendingAt 192 = .ok (.lload_n 1, 1) := by decide +kernel
theorem de_M_bendingAt_193 : decode cd_M_bendingAt 193 = .ok (.aload_n 0, 1) := by decide +kernel
theorem de_M_bendingAt_194 : decode cd_M_bendingAt 194 = .ok (.getfield 126, 3) := by decide +kernel
theorem de_M_bendingAt_197 : decode cd_M_bendingAt 197 = .ok (.lsub, 1) := by decide +kernel
theorem de_M_bendingAt_198 : decode cd_M_bendingAt 198 = .ok (.lmul, 1) := by decide +kernel
theorem de_M_bendingAt_199 : decode cd_M_bendingAt 199 = .ok (.lsub, 1) := by decide +kernel
theorem de_M_bendingAt_200 : decode cd_M_bendingAt 200 = .ok (.ldc2_w 124, 3) := by decide +kernel
theorem de_M_bendingAt_203 : decode cd_M_bendingAt 203 = .ok (.aload_n 0, 1) := by decide +kernel
theorem de_M_bendingAt_204 : decode cd_M_bendingAt 204 = .ok (.getfield 60, 3) := by decide +kernel
theorem de_M_bendingAt_207 : decode cd_M_bendingAt 207 = .ok (.aload_n 0, 1) := by decide +kernel
theorem de_M_bendingAt_208 : decode cd_M_bendingAt 208 = .ok (.getfield 126, 3) := by decide +kernel
theorem de_M_bendingAt_211 : decode cd_M_bendingAt 211 = .ok (.lsub, 1) := by decide +kernel
theorem de_M_bendingAt_212 : decode cd_M_bendingAt 212 = .ok (.lmul, 1) := by decide +kernel
theorem de_M_bendingAt_213 : decode cd_M_bendingAt 213 = .ok (.invokestatic 144, 3) := by decide +kernel
theorem de_M_bendingAt_216 : decode cd_M_bendingAt 216 = .ok (.lreturn, 1) := by decide +kernel
abbrev cd_M_weight : ByteArray := prog_11_method_19_code
abbrev yn_M_weight : MethodName := ⟨"StabilitySumsModel", "weight", "(JJJJ)I"⟩
theorem de_M_weight_0 : decode cd_M_weight 0 = .ok (.lload_n 1, 1) := by decide +kernel
theorem de_M_weight_1 : decode cd_M_weight 1 = .ok (.ldc2_w 162, 3) := by decide +kernel
theorem de_M_weight_4 : decode cd_M_weight 4 = .ok (.ldc2_w 164, 3) := by decide +kernel
theorem de_M_weight_7 : decode cd_M_weight 7 = .ok (.invokestatic 93, 3) := by decide +kernel
theorem de_M_weight_10 : decode cd_M_weight 10 = .ok (.ifCond .eq 32, 3) := by decide +kernel
theorem de_M_weight_13 : decode cd_M_weight 13 = .ok (.lload_n 1, 1) := by decide +kernel
theorem de_M_weight_14 : decode cd_M_weight 14 = .ok (.lconst 0, 1) := by decide +kernel
theorem de_M_weight_15 : decode cd_M_weight 15 = .ok (.lcmp, 1) := by decide +kernel
theorem de_M_weight_16 : decode cd_M_weight 16 = .ok (.ifCond .eq 26, 3) := by decide +kernel
theorem de_M_weight_19 : decode cd_M_weight 19 = .ok (.lload_n 3, 1) := by decide +kernel
theorem de_M_weight_20 : decode cd_M_weight 20 = .ok (.invokestatic 147, 3) := by decide +kernel
theorem de_M_weight_23 : decode cd_M_weight 23 = .ok (.ifCond .eq 19, 3) := by decide +kernel
theorem de_M_weight_26 : decode cd_M_weight 26 = .ok (.lload 5, 2) := by decide +kernel
theorem de_M_weight_28 : decode cd_M_weight 28 = .ok (.invokestatic 147, 3) := by decide +kernel
theorem de_M_weight_31 : decode cd_M_weight 31 = .ok (.ifCond .eq 11, 3) := by decide +kernel
theorem de_M_weight_34 : decode cd_M_weight 34 = .ok (.lload 7, 2) := by decide +kernel
theorem de_M_weight_36 : decode cd_M_weight 36 = .ok (.invokestatic 147, 3) := by decide +kernel
theorem de_M_weight_39 : decode cd_M_weight 39 = .ok (.ifCond .ne 9, 3) := by decide +kernel
theorem de_M_weight_42 : decode cd_M_weight 42 = .ok (.aload_n 0, 1) := by decide +kernel
theorem de_M_weight_43 : decode cd_M_weight 43 = .ok (.iconst 1, 1) := by decide +kernel
theorem de_M_weight_44 : decode cd_M_weight 44 = .ok (.invokevirtual 151, 3) := by decide +kernel
theorem de_M_weight_47 : decode cd_M_weight 47 = .ok (.ireturn, 1) := by decide +kernel
theorem de_M_weight_48 : decode cd_M_weight 48 = .ok (.aload_n 0, 1) := by decide +kernel
theorem de_M_weight_49 : decode cd_M_weight 49 = .ok (.getfield 97, 3) := by decide +kernel
theorem de_M_weight_52 : decode cd_M_weight 52 = .ok (.bipush 40, 2) := by decide +kernel
theorem de_M_weight_54 : decode cd_M_weight 54 = .ok (.if_icmp .ne 9, 3) := by decide +kernel
theorem de_M_weight_57 : decode cd_M_weight 57 = .ok (.aload_n 0, 1) := by decide +kernel
theorem de_M_weight_58 : decode cd_M_weight 58 = .ok (.iconst 2, 1) := by decide +kernel
theorem de_M_weight_59 : decode cd_M_weight 59 = .ok (.invokevirtual 151, 3) := by decide +kernel
theorem de_M_weight_62 : decode cd_M_weight 62 = .ok (.ireturn, 1) := by decide +kernel
theorem de_M_weight_63 : decode cd_M_weight 63 = .ok (.aload_n 0, 1) := by decide +kernel
theorem de_M_weight_64 : decode cd_M_weight 64 = .ok (.iconst 0, 1) := by decide +kernel
theorem de_M_weight_65 : decode cd_M_weight 65 = .ok (.putfield 87, 3) := by decide +kernel
theorem de_M_weight_68 : decode cd_M_weight 68 = .ok (.aload_n 0, 1) := by decide +kernel
theorem de_M_weight_69 : decode cd_M_weight 69 = .ok (.getfield 7, 3) := by decide +kernel
theorem de_M_weight_72 : decode cd_M_weight 72 = .ok (.aload_n 0, 1) := by decide +kernel
theorem de_M_weight_73 : decode cd_M_weight 73 = .ok (.getfield 97, 3) := by decide +kernel
theorem de_M_weight_76 : decode cd_M_weight 76 = .ok (.lload_n 1, 1) := by decide +kernel
theorem de_M_weight_77 : decode cd_M_weight 77 = .ok (.lastore, 1) := by decide +kernel
theorem de_M_weight_78 : decode cd_M_weight 78 = .ok (.aload_n 0, 1) := by decide +kernel
theorem de_M_weight_79 : decode cd_M_weight 79 = .ok (.getfield 13, 3) := by decide +kernel
theorem de_M_weight_82 : decode cd_M_weight 82 = .ok (.aload_n 0, 1) := by decide +kernel
theorem de_M_weight_83 : decode cd_M_weight 83 = .ok (.getfield 97, 3) := by decide +kernel
theorem de_M_weight_86 : decode cd_M_weight 86 = .ok (.lload_n 3, 1) := by decide +kernel
theorem de_M_weight_87 : decode cd_M_weight 87 = .ok (.lastore, 1) := by decide +kernel
theorem de_M_weight_88 : decode cd_M_weight 88 = .ok (.aload_n 0, 1) := by decide +kernel
theorem de_M_weight_89 : decode cd_M_weight 89 = .ok (.getfield 16, 3) := by decide +kernel
theorem de_M_weight_92 : decode cd_M_weight 92 = .ok (.aload_n 0, 1) := by decide +kernel
theorem de_M_weight_93 : decode cd_M_weight 93 = .ok (.getfield 97, 3) := by decide +kernel
theorem de_M_weight_96 : decode cd_M_weight 96 = .ok (.lload 5, 2) := by decide +kernel
theorem de_M_weight_98 : decode cd_M_weight 98 = .ok (.lastore, 1) := by decide +kernel
theorem de_M_weight_99 : decode cd_M_weight 99 = .ok (.aload_n 0, 1) := by decide +kernel
theorem de_M_weight_100 : decode cd_M_weight 100 = .ok (.getfield 19, 3) := by decide +kernel
theorem de_M_weight_103 : decode cd_M_weight 103 = .ok (.aload_n 0, 1) := by decide +kernel
theorem de_M_weight_104 : decode cd_M_weight 104 = .ok (.getfield 97, 3) := by decide +kernel
theorem de_M_weight_107 : decode cd_M_weight 107 = .ok (.lload 7, 2) := by decide +kernel
theorem de_M_weight_109 : decode cd_M_weight 109 = .ok (.lastore, 1) := by decide +kernel
theorem de_M_weight_110 : decode cd_M_weight 110 = .ok (.aload_n 0, 1) := by decide +kernel
theorem de_M_weight_111 : decode cd_M_weight 111 = .ok (.dup, 1) := by decide +kernel
theorem de_M_weight_112 : decode cd_M_weight 112 = .ok (.getfield 97, 3) := by decide +kernel
theorem de_M_weight_115 : decode cd_M_weight 115 = .ok (.iconst 1, 1) := by decide +kernel
theorem de_M_weight_116 : decode cd_M_weight 116 = .ok (.iadd, 1) := by decide +kernel
theorem de_M_weight_117 : decode cd_M_weight 117 = .ok (.putfield 97, 3) := by decide +kernel
theorem de_M_weight_120 : decode cd_M_weight 120 = .ok (.aload_n 0, 1) := by decide +kernel
theorem de_M_weight_121 : decode cd_M_weight 121 = .ok (.getfield 97, 3) := by decide +kernel
theorem de_M_weight_124 : decode cd_M_weight 124 = .ok (.iconst 1, 1) := by decide +kernel
theorem de_M_weight_125 : decode cd_M_weight 125 = .ok (.isub, 1) := by decide +kernel
theorem de_M_weight_126 : decode cd_M_weight 126 = .ok (.ireturn, 1) := by decide +kernel
abbrev cd_M_tank : ByteArray := prog_11_method_20_code
abbrev yn_M_tank : MethodName := ⟨"StabilitySumsModel", "tank", "(JJJJJ)I"⟩
theorem de_M_tank_0 : decode cd_M_tank 0 = .ok (.lload_n 1, 1) := by decide +kernel
theorem de_M_tank_1 : decode cd_M_tank 1 = .ok (.ldc2_w 166, 3) := by decide +kernel
theorem de_M_tank_4 : decode cd_M_tank 4 = .ok (.ldc2_w 168, 3) := by decide +kernel
theorem de_M_tank_7 : decode cd_M_tank 7 = .ok (.invokestatic 93, 3) := by decide +kernel
theorem de_M_tank_10 : decode cd_M_tank 10 = .ok (.ifCond .eq 48, 3) := by decide +kernel
theorem de_M_tank_13 : decode cd_M_tank 13 = .ok (.lload_n 1, 1) := by decide +kernel
theorem de_M_tank_14 : decode cd_M_tank 14 = .ok (.ldc2_w 166, 3) := by decide +kernel
theorem de_M_tank_17 : decode cd_M_tank 17 = .ok (.lrem, 1) := by decide +kernel
theorem de_M_tank_18 : decode cd_M_tank 18 = .ok (.lconst 0, 1) := by decide +kernel
theorem de_M_tank_19 : decode cd_M_tank 19 = .ok (.lcmp, 1) := by decide +kernel
theorem de_M_tank_20 : decode cd_M_tank 20 = .ok (.ifCond .ne 38, 3) := by decide +kernel
theorem de_M_tank_23 : decode cd_M_tank 23 = .ok (.lload_n 3, 1) := by decide +kernel
theorem de_M_tank_24 : decode cd_M_tank 24 = .ok (.lconst 0, 1) := by decide +kernel
theorem de_M_tank_25 : decode cd_M_tank 25 = .ok (.ldc2_w 170, 3) := by decide +kernel
theorem de_M_tank_28 : decode cd_M_tank 28 = .ok (.invokestatic 93, 3) := by decide +kernel
theorem de_M_tank_31 : decode cd_M_tank 31 = .ok (.ifCond .eq 27, 3) := by decide +kernel
theorem de_M_tank_34 : decode cd_M_tank 34 = .ok (.lload 5, 2) := by decide +kernel
theorem de_M_tank_36 : decode cd_M_tank 36 = .ok (.invokestatic 147, 3) := by decide +kernel
theorem de_M_tank_39 : decode cd_M_tank 39 = .ok (.ifCond .eq 19, 3) := by decide +kernel
theorem de_M_tank_42 : decode cd_M_tank 42 = .ok (.lload 7, 2) := by decide +kernel
theorem de_M_tank_44 : decode cd_M_tank 44 = .ok (.invokestatic 147, 3) := by decide +kernel
theorem de_M_tank_47 : decode cd_M_tank 47 = .ok (.ifCond .eq 11, 3) := by decide +kernel
theorem de_M_tank_50 : decode cd_M_tank 50 = .ok (.lload 9, 2) := by decide +kernel
theorem de_M_tank_52 : decode cd_M_tank 52 = .ok (.invokestatic 147, 3) := by decide +kernel
theorem de_M_tank_55 : decode cd_M_tank 55 = .ok (.ifCond .ne 9, 3) := by decide +kernel
theorem de_M_tank_58 : decode cd_M_tank 58 = .ok (.aload_n 0, 1) := by decide +kernel
theorem de_M_tank_59 : decode cd_M_tank 59 = .ok (.iconst 1, 1) := by decide +kernel
theorem de_M_tank_60 : decode cd_M_tank 60 = .ok (.invokevirtual 151, 3) := by decide +kernel
theorem de_M_tank_63 : decode cd_M_tank 63 = .ok (.ireturn, 1) := by decide +kernel
theorem de_M_tank_64 : decode cd_M_tank 64 = .ok (.aload_n 0, 1) := by decide +kernel
theorem de_M_tank_65 : decode cd_M_tank 65 = .ok (.getfield 100, 3) := by decide +kernel
theorem de_M_tank_68 : decode cd_M_tank 68 = .ok (.iconst 4, 1) := by decide +kernel
theorem de_M_tank_69 : decode cd_M_tank 69 = .ok (.if_icmp .ne 9, 3) := by decide +kernel
theorem de_M_tank_72 : decode cd_M_tank 72 = .ok (.aload_n 0, 1) := by decide +kernel
theorem de_M_tank_73 : decode cd_M_tank 73 = .ok (.iconst 2, 1) := by decide +kernel
theorem de_M_tank_74 : decode cd_M_tank 74 = .ok (.invokevirtual 151, 3) := by decide +kernel
theorem de_M_tank_77 : decode cd_M_tank 77 = .ok (.ireturn, 1) := by decide +kernel
theorem de_M_tank_78 : decode cd_M_tank 78 = .ok (.aload_n 0, 1) := by decide +kernel
theorem de_M_tank_79 : decode cd_M_tank 79 = .ok (.iconst 0, 1) := by decide +kernel
theorem de_M_tank_80 : decode cd_M_tank 80 = .ok (.putfield 87, 3) := by decide +kernel
theorem de_M_tank_83 : decode cd_M_tank 83 = .ok (.aload_n 0, 1) := by decide +kernel
theorem de_M_tank_84 : decode cd_M_tank 84 = .ok (.getfield 22, 3) := by decide +kernel
theorem de_M_tank_87 : decode cd_M_tank 87 = .ok (.aload_n 0, 1) := by decide +kernel
theorem de_M_tank_88 : decode cd_M_tank 88 = .ok (.getfield 100, 3) := by decide +kernel
theorem de_M_tank_91 : decode cd_M_tank 91 = .ok (.lload_n 1, 1) := by decide +kernel
theorem de_M_tank_92 : decode cd_M_tank 92 = .ok (.lastore, 1) := by decide +kernel
theorem de_M_tank_93 : decode cd_M_tank 93 = .ok (.aload_n 0, 1) := by decide +kernel
theorem de_M_tank_94 : decode cd_M_tank 94 = .ok (.getfield 25, 3) := by decide +kernel
theorem de_M_tank_97 : decode cd_M_tank 97 = .ok (.aload_n 0, 1) := by decide +kernel
theorem de_M_tank_98 : decode cd_M_tank 98 = .ok (.getfield 100, 3) := by decide +kernel
theorem de_M_tank_101 : decode cd_M_tank 101 = .ok (.lload_n 3, 1) := by decide +kernel
theorem de_M_tank_102 : decode cd_M_tank 102 = .ok (.lastore, 1) := by decide +kernel
theorem de_M_tank_103 : decode cd_M_tank 103 = .ok (.aload_n 0, 1) := by decide +kernel
theorem de_M_tank_104 : decode cd_M_tank 104 = .ok (.getfield 28, 3) := by decide +kernel
theorem de_M_tank_107 : decode cd_M_tank 107 = .ok (.aload_n 0, 1) := by decide +kernel
theorem de_M_tank_108 : decode cd_M_tank 108 = .ok (.getfield 100, 3) := by decide +kernel
theorem de_M_tank_111 : decode cd_M_tank 111 = .ok (.lload 5, 2) := by decide +kernel
theorem de_M_tank_113 : decode cd_M_tank 113 = .ok (.lastore, 1) := by decide +kernel
theorem de_M_tank_114 : decode cd_M_tank 114 = .ok (.aload_n 0, 1) := by decide +kernel
theorem de_M_tank_115 : decode cd_M_tank 115 = .ok (.getfield 31, 3) := by decide +kernel
theorem de_M_tank_118 : decode cd_M_tank 118 = .ok (.aload_n 0, 1) := by decide +kernel
theorem de_M_tank_119 : decode cd_M_tank 119 = .ok (.getfield 100, 3) := by decide +kernel
theorem de_M_tank_122 : decode cd_M_tank 122 = .ok (.lload 7, 2) := by decide +kernel
theorem de_M_tank_124 : decode cd_M_tank 124 = .ok (.lastore, 1) := by decide +kernel
theorem de_M_tank_125 : decode cd_M_tank 125 = .ok (.aload_n 0, 1) := by decide +kernel
theorem de_M_tank_126 : decode cd_M_tank 126 = .ok (.getfield 34, 3) := by decide +kernel
theorem de_M_tank_129 : decode cd_M_tank 129 = .ok (.aload_n 0, 1) := by decide +kernel
theorem de_M_tank_130 : decode cd_M_tank 130 = .ok (.getfield 100, 3) := by decide +kernel
theorem de_M_tank_133 : decode cd_M_tank 133 = .ok (.lload 9, 2) := by decide +kernel
theorem de_M_tank_135 : decode cd_M_tank 135 = .ok (.lastore, 1) := by decide +kernel
theorem de_M_tank_136 : decode cd_M_tank 136 = .ok (.aload_n 0, 1) := by decide +kernel
theorem de_M_tank_137 : decode cd_M_tank 137 = .ok (.getfield 37, 3) := by decide +kernel
theorem de_M_tank_140 : decode cd_M_tank 140 = .ok (.aload_n 0, 1) := by decide +kernel
theorem de_M_tank_141 : decode cd_M_tank 141 = .ok (.getfield 100, 3) := by decide +kernel
theorem de_M_tank_144 : decode cd_M_tank 144 = .ok (.lconst 0, 1) := by decide +kernel
theorem de_M_tank_145 : decode cd_M_tank 145 = .ok (.lastore, 1) := by decide +kernel
theorem de_M_tank_146 : decode cd_M_tank 146 = .ok (.aload_n 0, 1) := by decide +kernel
theorem de_M_tank_147 : decode cd_M_tank 147 = .ok (.dup, 1) := by decide +kernel
theorem de_M_tank_148 : decode cd_M_tank 148 = .ok (.getfield 100, 3) := by decide +kernel
theorem de_M_tank_151 : decode cd_M_tank 151 = .ok (.iconst 1, 1) := by decide +kernel
theorem de_M_tank_152 : decode cd_M_tank 152 = .ok (.iadd, 1) := by decide +kernel
theorem de_M_tank_153 : decode cd_M_tank 153 = .ok (.putfield 100, 3) := by decide +kernel
theorem de_M_tank_156 : decode cd_M_tank 156 = .ok (.aload_n 0, 1) := by decide +kernel
theorem de_M_tank_157 : decode cd_M_tank 157 = .ok (.getfield 100, 3) := by decide +kernel
theorem de_M_tank_160 : decode cd_M_tank 160 = .ok (.iconst 1, 1) := by decide +kernel
theorem de_M_tank_161 : decode cd_M_tank 161 = .ok (.isub, 1) := by decide +kernel
theorem de_M_tank_162 : decode cd_M_tank 162 = .ok (.ireturn, 1) := by decide +kernel
abbrev cd_M_filled : ByteArray := prog_11_method_22_code
abbrev yn_M_filled : MethodName := ⟨"StabilitySumsModel", "filled", "(IJ)I"⟩
theorem de_M_filled_0 : decode cd_M_filled 0 = .ok (.aload_n 0, 1) := by decide +kernel
theorem de_M_filled_1 : decode cd_M_filled 1 = .ok (.iload_n 1, 1) := by decide +kernel
theorem de_M_filled_2 : decode cd_M_filled 2 = .ok (.invokevirtual 172, 3) := by decide +kernel
theorem de_M_filled_5 : decode cd_M_filled 5 = .ok (.ifCond .ne 9, 3) := by decide +kernel
theorem de_M_filled_8 : decode cd_M_filled 8 = .ok (.aload_n 0, 1) := by decide +kernel
theorem de_M_filled_9 : decode cd_M_filled 9 = .ok (.iconst 1, 1) := by decide +kernel
theorem de_M_filled_10 : decode cd_M_filled 10 = .ok (.invokevirtual 151, 3) := by decide +kernel
theorem de_M_filled_13 : decode cd_M_filled 13 = .ok (.ireturn, 1) := by decide +kernel
theorem de_M_filled_14 : decode cd_M_filled 14 = .ok (.aload_n 0, 1) := by decide +kernel
theorem de_M_filled_15 : decode cd_M_filled 15 = .ok (.iconst 0, 1) := by decide +kernel
theorem de_M_filled_16 : decode cd_M_filled 16 = .ok (.putfield 87, 3) := by decide +kernel
theorem de_M_filled_19 : decode cd_M_filled 19 = .ok (.lload_n 2, 1) := by decide +kernel
theorem de_M_filled_20 : decode cd_M_filled 20 = .ok (.lconst 0, 1) := by decide +kernel
theorem de_M_filled_21 : decode cd_M_filled 21 = .ok (.aload_n 0, 1) := by decide +kernel
theorem de_M_filled_22 : decode cd_M_filled 22 = .ok (.getfield 22, 3) := by decide +kernel
theorem de_M_filled_25 : decode cd_M_filled 25 = .ok (.iload_n 1, 1) := by decide +kernel
theorem de_M_filled_26 : decode cd_M_filled 26 = .ok (.laload, 1) := by decide +kernel
theorem de_M_filled_27 : decode cd_M_filled 27 = .ok (.invokestatic 93, 3) := by decide +kernel
theorem de_M_filled_30 : decode cd_M_filled 30 = .ok (.ifCond .ne 5, 3) := by decide +kernel
theorem de_M_filled_33 : decode cd_M_filled 33 = .ok (.iconst 0, 1) := by decide +kernel
theorem de_M_filled_34 : decode cd_M_filled 34 = .ok (.ireturn, 1) := by decide +kernel
theorem de_M_filled_35 : decode cd_M_filled 35 = .ok (.aload_n 0, 1) := by decide +kernel
theorem de_M_filled_36 : decode cd_M_filled 36 = .ok (.getfield 37, 3) := by decide +kernel
theorem de_M_filled_39 : decode cd_M_filled 39 = .ok (.iload_n 1, 1) := by decide +kernel
theorem de_M_filled_40 : decode cd_M_filled 40 = .ok (.lload_n 2, 1) := by decide +kernel
theorem de_M_filled_41 : decode cd_M_filled 41 = .ok (.lastore, 1) := by decide +kernel
theorem de_M_filled_42 : decode cd_M_filled 42 = .ok (.iconst 1, 1) := by decide +kernel
theorem de_M_filled_43 : decode cd_M_filled 43 = .ok (.ireturn, 1) := by decide +kernel
abbrev cd_M_isTankThere : ByteArray := prog_11_method_21_code
abbrev yn_M_isTankThere : MethodName := ⟨"StabilitySumsModel", "isTankThere", "(I)Z"⟩
theorem de_M_isTankThere_0 : decode cd_M_isTankThere 0 = .ok (.iload_n 1, 1) := by decide +kernel
theorem de_M_isTankThere_1 : decode cd_M_isTankThere 1 = .ok (.ifCond .lt 15, 3) := by decide +kernel
theorem de_M_isTankThere_4 : decode cd_M_isTankThere 4 = .ok (.iload_n 1, 1) := by decide +kernel
theorem de_M_isTankThere_5 : decode cd_M_isTankThere 5 = .ok (.aload_n 0, 1) := by decide +kernel
theorem de_M_isTankThere_6 : decode cd_M_isTankThere 6 = .ok (.getfield 100, 3) := by decide +kernel
theorem de_M_isTankThere_9 : decode cd_M_isTankThere 9 = .ok (.if_icmp .ge 7, 3) := by decide +kernel
theorem de_M_isTankThere_12 : decode cd_M_isTankThere 12 = .ok (.iconst 1, 1) := by decide +kernel
theorem de_M_isTankThere_13 : decode cd_M_isTankThere 13 = .ok (.goto 4, 3) := by decide +kernel
theorem de_M_isTankThere_16 : decode cd_M_isTankThere 16 = .ok (.iconst 0, 1) := by decide +kernel
theorem de_M_isTankThere_17 : decode cd_M_isTankThere 17 = .ok (.ireturn, 1) := by decide +kernel
abbrev cd_M_hydro : ByteArray := prog_11_method_23_code
abbrev yn_M_hydro : MethodName := ⟨"StabilitySumsModel", "hydro", "(JJJ)I"⟩
theorem de_M_hydro_0 : decode cd_M_hydro 0 = .ok (.lload_n 1, 1) := by decide +kernel
theorem de_M_hydro_1 : decode cd_M_hydro 1 = .ok (.lconst 1, 1) := by decide +kernel
theorem de_M_hydro_2 : decode cd_M_hydro 2 = .ok (.ldc2_w 175, 3) := by decide +kernel
theorem de_M_hydro_5 : decode cd_M_hydro 5 = .ok (.invokestatic 93, 3) := by decide +kernel
theorem de_M_hydro_8 : decode cd_M_hydro 8 = .ok (.ifCond .eq 52, 3) := by decide +kernel
theorem de_M_hydro_11 : decode cd_M_hydro 11 = .ok (.lload_n 3, 1) := by decide +kernel
theorem de_M_hydro_12 : decode cd_M_hydro 12 = .ok (.invokestatic 147, 3) := by decide +kernel
theorem de_M_hydro_15 : decode cd_M_hydro 15 = .ok (.ifCond .eq 45, 3) := by decide +kernel
theorem de_M_hydro_18 : decode cd_M_hydro 18 = .ok (.lload 5, 2) := by decide +kernel
theorem de_M_hydro_20 : decode cd_M_hydro 20 = .ok (.invokestatic 147, 3) := by decide +kernel
theorem de_M_hydro_23 : decode cd_M_hydro 23 = .ok (.ifCond .eq 37, 3) := by decide +kernel
theorem de_M_hydro_26 : decode cd_M_hydro 26 = .ok (.aload_n 0, 1) := by decide +kernel
theorem de_M_hydro_27 : decode cd_M_hydro 27 = .ok (.getfield 103, 3) := by decide +kernel
theorem de_M_hydro_30 : decode cd_M_hydro 30 = .ok (.ifCond .le 36, 3) := by decide +kernel
theorem de_M_hydro_33 : decode cd_M_hydro 33 = .ok (.lload_n 1, 1) := by decide +kernel
theorem de_M_hydro_34 : decode cd_M_hydro 34 = .ok (.aload_n 0, 1) := by decide +kernel
theorem de_M_hydro_35 : decode cd_M_hydro 35 = .ok (.getfield 49, 3) := by decide +kernel
theorem de_M_hydro_38 : decode cd_M_hydro 38 = .ok (.aload_n 0, 1) := by decide +kernel
theorem de_M_hydro_39 : decode cd_M_hydro 39 = .ok (.getfield 103, 3) := by decide +kernel
theorem de_M_hydro_42 : decode cd_M_hydro 42 = .ok (.ifCond .le 12, 3) := by decide +kernel
theorem de_M_hydro_45 : decode cd_M_hydro 45 = .ok (.aload_n 0, 1) := by decide +kernel
theorem de_M_hydro_46 : decode cd_M_hydro 46 = .ok (.getfield 103, 3) := by decide +kernel
theorem de_M_hydro_49 : decode cd_M_hydro 49 = .ok (.iconst 1, 1) := by decide +kernel
theorem de_M_hydro_50 : decode cd_M_hydro 50 = .ok (.isub, 1) := by decide +kernel
theorem de_M_hydro_51 : decode cd_M_hydro 51 = .ok (.goto 4, 3) := by decide +kernel
theorem de_M_hydro_54 : decode cd_M_hydro 54 = .ok (.iconst 0, 1) := by decide +kernel
theorem de_M_hydro_55 : decode cd_M_hydro 55 = .ok (.laload, 1) := by decide +kernel
theorem de_M_hydro_56 : decode cd_M_hydro 56 = .ok (.lcmp, 1) := by decide +kernel
theorem de_M_hydro_57 : decode cd_M_hydro 57 = .ok (.ifCond .gt 9, 3) := by decide +kernel
theorem de_M_hydro_60 : decode cd_M_hydro 60 = .ok (.aload_n 0, 1) := by decide +kernel
theorem de_M_hydro_61 : decode cd_M_hydro 61 = .ok (.iconst 1, 1) := by decide +kernel
theorem de_M_hydro_62 : decode cd_M_hydro 62 = .ok (.invokevirtual 151, 3) := by decide +kernel
theorem de_M_hydro_65 : decode cd_M_hydro 65 = .ok (.ireturn, 1) := by decide +kernel
theorem de_M_hydro_66 : decode cd_M_hydro 66 = .ok (.aload_n 0, 1) := by decide +kernel
theorem de_M_hydro_67 : decode cd_M_hydro 67 = .ok (.getfield 103, 3) := by decide +kernel
theorem de_M_hydro_70 : decode cd_M_hydro 70 = .ok (.bipush 12, 2) := by decide +kernel
theorem de_M_hydro_72 : decode cd_M_hydro 72 = .ok (.if_icmp .ne 9, 3) := by decide +kernel
theorem de_M_hydro_75 : decode cd_M_hydro 75 = .ok (.aload_n 0, 1) := by decide +kernel
theorem de_M_hydro_76 : decode cd_M_hydro 76 = .ok (.iconst 2, 1) := by decide +kernel
theorem de_M_hydro_77 : decode cd_M_hydro 77 = .ok (.invokevirtual 151, 3) := by decide +kernel
theorem de_M_hydro_80 : decode cd_M_hydro 80 = .ok (.ireturn, 1) := by decide +kernel
theorem de_M_hydro_81 : decode cd_M_hydro 81 = .ok (.aload_n 0, 1) := by decide +kernel
theorem de_M_hydro_82 : decode cd_M_hydro 82 = .ok (.iconst 0, 1) := by decide +kernel
theorem de_M_hydro_83 : decode cd_M_hydro 83 = .ok (.putfield 87, 3) := by decide +kernel
theorem de_M_hydro_86 : decode cd_M_hydro 86 = .ok (.aload_n 0, 1) := by decide +kernel
theorem de_M_hydro_87 : decode cd_M_hydro 87 = .ok (.getfield 49, 3) := by decide +kernel
theorem de_M_hydro_90 : decode cd_M_hydro 90 = .ok (.aload_n 0, 1) := by decide +kernel
theorem de_M_hydro_91 : decode cd_M_hydro 91 = .ok (.getfield 103, 3) := by decide +kernel
theorem de_M_hydro_94 : decode cd_M_hydro 94 = .ok (.lload_n 1, 1) := by decide +kernel
theorem de_M_hydro_95 : decode cd_M_hydro 95 = .ok (.lastore, 1) := by decide +kernel
theorem de_M_hydro_96 : decode cd_M_hydro 96 = .ok (.aload_n 0, 1) := by decide +kernel
theorem de_M_hydro_97 : decode cd_M_hydro 97 = .ok (.getfield 52, 3) := by decide +kernel
theorem de_M_hydro_100 : decode cd_M_hydro 100 = .ok (.aload_n 0, 1) := by decide +kernel
theorem de_M_hydro_101 : decode cd_M_hydro 101 = .ok (.getfield 103, 3) := by decide +kernel
theorem de_M_hydro_104 : decode cd_M_hydro 104 = .ok (.lload_n 3, 1) := by decide +kernel
theorem de_M_hydro_105 : decode cd_M_hydro 105 = .ok (.lastore, 1) := by decide +kernel
theorem de_M_hydro_106 : decode cd_M_hydro 106 = .ok (.aload_n 0, 1) := by decide +kernel
theorem de_M_hydro_107 : decode cd_M_hydro 107 = .ok (.getfield 55, 3) := by decide +kernel
theorem de_M_hydro_110 : decode cd_M_hydro 110 = .ok (.aload_n 0, 1) := by decide +kernel
theorem de_M_hydro_111 : decode cd_M_hydro 111 = .ok (.getfield 103, 3) := by decide +kernel
theorem de_M_hydro_114 : decode cd_M_hydro 114 = .ok (.lload 5, 2) := by decide +kernel
theorem de_M_hydro_116 : decode cd_M_hydro 116 = .ok (.lastore, 1) := by decide +kernel
theorem de_M_hydro_117 : decode cd_M_hydro 117 = .ok (.aload_n 0, 1) := by decide +kernel
theorem de_M_hydro_118 : decode cd_M_hydro 118 = .ok (.dup, 1) := by decide +kernel
theorem de_M_hydro_119 : decode cd_M_hydro 119 = .ok (.getfield 103, 3) := by decide +kernel
theorem de_M_hydro_122 : decode cd_M_hydro 122 = .ok (.iconst 1, 1) := by decide +kernel
theorem de_M_hydro_123 : decode cd_M_hydro 123 = .ok (.iadd, 1) := by decide +kernel
theorem de_M_hydro_124 : decode cd_M_hydro 124 = .ok (.putfield 103, 3) := by decide +kernel
theorem de_M_hydro_127 : decode cd_M_hydro 127 = .ok (.aload_n 0, 1) := by decide +kernel
theorem de_M_hydro_128 : decode cd_M_hydro 128 = .ok (.getfield 103, 3) := by decide +kernel
theorem de_M_hydro_131 : decode cd_M_hydro 131 = .ok (.ireturn, 1) := by decide +kernel
abbrev cd_M_hull : ByteArray := prog_11_method_24_code
abbrev yn_M_hull : MethodName := ⟨"StabilitySumsModel", "hull", "(JJ)Z"⟩
theorem de_M_hull_0 : decode cd_M_hull 0 = .ok (.aload_n 0, 1) := by decide +kernel
theorem de_M_hull_1 : decode cd_M_hull 1 = .ok (.iconst 0, 1) := by decide +kernel
theorem de_M_hull_2 : decode cd_M_hull 2 = .ok (.putfield 87, 3) := by decide +kernel
theorem de_M_hull_5 : decode cd_M_hull 5 = .ok (.lload_n 1, 1) := by decide +kernel
theorem de_M_hull_6 : decode cd_M_hull 6 = .ok (.invokestatic 147, 3) := by decide +kernel
theorem de_M_hull_9 : decode cd_M_hull 9 = .ok (.ifCond .eq 16, 3) := by decide +kernel
theorem de_M_hull_12 : decode cd_M_hull 12 = .ok (.lload_n 3, 1) := by decide +kernel
theorem de_M_hull_13 : decode cd_M_hull 13 = .ok (.invokestatic 147, 3) := by decide +kernel
theorem de_M_hull_16 : decode cd_M_hull 16 = .ok (.ifCond .eq 9, 3) := by decide +kernel
theorem de_M_hull_19 : decode cd_M_hull 19 = .ok (.lload_n 1, 1) := by decide +kernel
theorem de_M_hull_20 : decode cd_M_hull 20 = .ok (.lload_n 3, 1) := by decide +kernel
theorem de_M_hull_21 : decode cd_M_hull 21 = .ok (.lcmp, 1) := by decide +kernel
theorem de_M_hull_22 : decode cd_M_hull 22 = .ok (.ifCond .lt 5, 3) := by decide +kernel
theorem de_M_hull_25 : decode cd_M_hull 25 = .ok (.iconst 0, 1) := by decide +kernel
theorem de_M_hull_26 : decode cd_M_hull 26 = .ok (.ireturn, 1) := by decide +kernel
theorem de_M_hull_27 : decode cd_M_hull 27 = .ok (.aload_n 0, 1) := by decide +kernel
theorem de_M_hull_28 : decode cd_M_hull 28 = .ok (.lload_n 1, 1) := by decide +kernel
theorem de_M_hull_29 : decode cd_M_hull 29 = .ok (.putfield 126, 3) := by decide +kernel
theorem de_M_hull_32 : decode cd_M_hull 32 = .ok (.aload_n 0, 1) := by decide +kernel
theorem de_M_hull_33 : decode cd_M_hull 33 = .ok (.lload_n 3, 1) := by decide +kernel
theorem de_M_hull_34 : decode cd_M_hull 34 = .ok (.putfield 60, 3) := by decide +kernel
theorem de_M_hull_37 : decode cd_M_hull 37 = .ok (.iconst 1, 1) := by decide +kernel
theorem de_M_hull_38 : decode cd_M_hull 38 = .ok (.ireturn, 1) := by decide +kernel
abbrev cd_M_limit : ByteArray := prog_11_method_25_code
abbrev yn_M_limit : MethodName := ⟨"StabilitySumsModel", "limit", "(IJJJ)I"⟩
theorem de_M_limit_0 : decode cd_M_limit 0 = .ok (.ldc2_w 177, 3) := by decide +kernel
theorem de_M_limit_3 : decode cd_M_limit 3 = .ok (.lstore 8, 2) := by decide +kernel
theorem de_M_limit_5 : decode cd_M_limit 5 = .ok (.iload_n 1, 1) := by decide +kernel
theorem de_M_limit_6 : decode cd_M_limit 6 = .ok (.ifCond .lt 50, 3) := by decide +kernel
theorem de_M_limit_9 : decode cd_M_limit 9 = .ok (.iload_n 1, 1) := by decide +kernel
theorem de_M_limit_10 : decode cd_M_limit 10 = .ok (.bipush 9, 2) := by decide +kernel
theorem de_M_limit_12 : decode cd_M_limit 12 = .ok (.if_icmp .gt 44, 3) := by decide +kernel
theorem de_M_limit_15 : decode cd_M_limit 15 = .ok (.lload 4, 2) := by decide +kernel
theorem de_M_limit_17 : decode cd_M_limit 17 = .ok (.lload 6, 2) := by decide +kernel
theorem de_M_limit_19 : decode cd_M_limit 19 = .ok (.lcmp, 1) := by decide +kernel
theorem de_M_limit_20 : decode cd_M_limit 20 = .ok (.ifCond .gt 36, 3) := by decide +kernel
theorem de_M_limit_23 : decode cd_M_limit 23 = .ok (.lload 4, 2) := by decide +kernel
theorem de_M_limit_25 : decode cd_M_limit 25 = .ok (.lload 8, 2) := by decide +kernel
theorem de_M_limit_27 : decode cd_M_limit 27 = .ok (.lneg, 1) := by decide +kernel
theorem de_M_limit_28 : decode cd_M_limit 28 = .ok (.lload 8, 2) := by decide +kernel
theorem de_M_limit_30 : decode cd_M_limit 30 = .ok (.invokestatic 93, 3) := by decide +kernel
theorem de_M_limit_33 : decode cd_M_limit 33 = .ok (.ifCond .eq 23, 3) := by decide +kernel
theorem de_M_limit_36 : decode cd_M_limit 36 = .ok (.lload 6, 2) := by decide +kernel
theorem de_M_limit_38 : decode cd_M_limit 38 = .ok (.lload 8, 2) := by decide +kernel
theorem de_M_limit_40 : decode cd_M_limit 40 = .ok (.lneg, 1) := by decide +kernel
theorem de_M_limit_41 : decode cd_M_limit 41 = .ok (.lload 8, 2) := by decide +kernel
theorem de_M_limit_43 : decode cd_M_limit 43 = .ok (.invokestatic 93, 3) := by decide +kernel
theorem de_M_limit_46 : decode cd_M_limit 46 = .ok (.ifCond .eq 10, 3) := by decide +kernel
theorem de_M_limit_49 : decode cd_M_limit 49 = .ok (.lload_n 2, 1) := by decide +kernel
theorem de_M_limit_50 : decode cd_M_limit 50 = .ok (.invokestatic 147, 3) := by decide +kernel
theorem de_M_limit_53 : decode cd_M_limit 53 = .ok (.ifCond .ne 9, 3) := by decide +kernel
theorem de_M_limit_56 : decode cd_M_limit 56 = .ok (.aload_n 0, 1) := by decide +kernel
theorem de_M_limit_57 : decode cd_M_limit 57 = .ok (.iconst 1, 1) := by decide +kernel
theorem de_M_limit_58 : decode cd_M_limit 58 = .ok (.invokevirtual 151, 3) := by decide +kernel
theorem de_M_limit_61 : decode cd_M_limit 61 = .ok (.ireturn, 1) := by decide +kernel
theorem de_M_limit_62 : decode cd_M_limit 62 = .ok (.aload_n 0, 1) := by decide +kernel
theorem de_M_limit_63 : decode cd_M_limit 63 = .ok (.getfield 179, 3) := by decide +kernel
theorem de_M_limit_66 : decode cd_M_limit 66 = .ok (.bipush 10, 2) := by decide +kernel
theorem de_M_limit_68 : decode cd_M_limit 68 = .ok (.if_icmp .ne 9, 3) := by decide +kernel
theorem de_M_limit_71 : decode cd_M_limit 71 = .ok (.aload_n 0, 1) := by decide +kernel
theorem de_M_limit_72 : decode cd_M_limit 72 = .ok (.iconst 2, 1) := by decide +kernel
theorem de_M_limit_73 : decode cd_M_limit 73 = .ok (.invokevirtual 151, 3) := by decide +kernel
theorem de_M_limit_76 : decode cd_M_limit 76 = .ok (.ireturn, 1) := by decide +kernel
theorem de_M_limit_77 : decode cd_M_limit 77 = .ok (.aload_n 0, 1) := by decide +kernel
theorem de_M_limit_78 : decode cd_M_limit 78 = .ok (.iconst 0, 1) := by decide +kernel
theorem de_M_limit_79 : decode cd_M_limit 79 = .ok (.putfield 87, 3) := by decide +kernel
theorem de_M_limit_82 : decode cd_M_limit 82 = .ok (.aload_n 0, 1) := by decide +kernel
theorem de_M_limit_83 : decode cd_M_limit 83 = .ok (.getfield 64, 3) := by decide +kernel
theorem de_M_limit_86 : decode cd_M_limit 86 = .ok (.aload_n 0, 1) := by decide +kernel
theorem de_M_limit_87 : decode cd_M_limit 87 = .ok (.getfield 179, 3) := by decide +kernel
theorem de_M_limit_90 : decode cd_M_limit 90 = .ok (.iload_n 1, 1) := by decide +kernel
theorem de_M_limit_91 : decode cd_M_limit 91 = .ok (.iastore, 1) := by decide +kernel
theorem de_M_limit_92 : decode cd_M_limit 92 = .ok (.aload_n 0, 1) := by decide +kernel
theorem de_M_limit_93 : decode cd_M_limit 93 = .ok (.getfield 68, 3) := by decide +kernel
theorem de_M_limit_96 : decode cd_M_limit 96 = .ok (.aload_n 0, 1) := by decide +kernel
theorem de_M_limit_97 : decode cd_M_limit 97 = .ok (.getfield 179, 3) := by decide +kernel
theorem de_M_limit_100 : decode cd_M_limit 100 = .ok (.lload_n 2, 1) := by decide +kernel
theorem de_M_limit_101 : decode cd_M_limit 101 = .ok (.lastore, 1) := by decide +kernel
theorem de_M_limit_102 : decode cd_M_limit 102 = .ok (.aload_n 0, 1) := by decide +kernel
theorem de_M_limit_103 : decode cd_M_limit 103 = .ok (.getfield 71, 3) := by decide +kernel
theorem de_M_limit_106 : decode cd_M_limit 106 = .ok (.aload_n 0, 1) := by decide +kernel
theorem de_M_limit_107 : decode cd_M_limit 107 = .ok (.getfield 179, 3) := by decide +kernel
theorem de_M_limit_110 : decode cd_M_limit 110 = .ok (.lload 4, 2) := by decide +kernel
theorem de_M_limit_112 : decode cd_M_limit 112 = .ok (.lastore, 1) := by decide +kernel
theorem de_M_limit_113 : decode cd_M_limit 113 = .ok (.aload_n 0, 1) := by decide +kernel
theorem de_M_limit_114 : decode cd_M_limit 114 = .ok (.getfield 74, 3) := by decide +kernel
theorem de_M_limit_117 : decode cd_M_limit 117 = .ok (.aload_n 0, 1) := by decide +kernel
theorem de_M_limit_118 : decode cd_M_limit 118 = .ok (.getfield 179, 3) := by decide +kernel
theorem de_M_limit_121 : decode cd_M_limit 121 = .ok (.lload 6, 2) := by decide +kernel
theorem de_M_limit_123 : decode cd_M_limit 123 = .ok (.lastore, 1) := by decide +kernel
theorem de_M_limit_124 : decode cd_M_limit 124 = .ok (.aload_n 0, 1) := by decide +kernel
theorem de_M_limit_125 : decode cd_M_limit 125 = .ok (.dup, 1) := by decide +kernel
theorem de_M_limit_126 : decode cd_M_limit 126 = .ok (.getfield 179, 3) := by decide +kernel
theorem de_M_limit_129 : decode cd_M_limit 129 = .ok (.iconst 1, 1) := by decide +kernel
theorem de_M_limit_130 : decode cd_M_limit 130 = .ok (.iadd, 1) := by decide +kernel
theorem de_M_limit_131 : decode cd_M_limit 131 = .ok (.putfield 179, 3) := by decide +kernel
theorem de_M_limit_134 : decode cd_M_limit 134 = .ok (.aload_n 0, 1) := by decide +kernel
theorem de_M_limit_135 : decode cd_M_limit 135 = .ok (.getfield 179, 3) := by decide +kernel
theorem de_M_limit_138 : decode cd_M_limit 138 = .ok (.ireturn, 1) := by decide +kernel
abbrev cd_M_check : ByteArray := prog_11_method_28_code
abbrev yn_M_check : MethodName := ⟨"StabilitySumsModel", "check", "()I"⟩
theorem de_M_check_0 : decode cd_M_check 0 = .ok (.aload_n 0, 1) := by decide +kernel
theorem de_M_check_1 : decode cd_M_check 1 = .ok (.iconst 0, 1) := by decide +kernel
theorem de_M_check_2 : decode cd_M_check 2 = .ok (.putfield 87, 3) := by decide +kernel
theorem de_M_check_5 : decode cd_M_check 5 = .ok (.aload_n 0, 1) := by decide +kernel
theorem de_M_check_6 : decode cd_M_check 6 = .ok (.invokevirtual 129, 3) := by decide +kernel
theorem de_M_check_9 : decode cd_M_check 9 = .ok (.aload_n 0, 1) := by decide +kernel
theorem de_M_check_10 : decode cd_M_check 10 = .ok (.invokevirtual 185, 3) := by decide +kernel
theorem de_M_check_13 : decode cd_M_check 13 = .ok (.ireturn, 1) := by decide +kernel
abbrev cd_M_broken0 : ByteArray := prog_11_method_27_code
abbrev yn_M_broken0 : MethodName := ⟨"StabilitySumsModel", "broken0", "()I"⟩
theorem de_M_broken0_0 : decode cd_M_broken0 0 = .ok (.iconst 0, 1) := by decide +kernel
theorem de_M_broken0_1 : decode cd_M_broken0 1 = .ok (.istore_n 1, 1) := by decide +kernel
theorem de_M_broken0_2 : decode cd_M_broken0 2 = .ok (.iload_n 1, 1) := by decide +kernel
theorem de_M_broken0_3 : decode cd_M_broken0 3 = .ok (.aload_n 0, 1) := by decide +kernel
theorem de_M_broken0_4 : decode cd_M_broken0 4 = .ok (.getfield 179, 3) := by decide +kernel
theorem de_M_broken0_7 : decode cd_M_broken0 7 = .ok (.if_icmp .ge 17, 3) := by decide +kernel
theorem de_M_broken0_10 : decode cd_M_broken0 10 = .ok (.aload_n 0, 1) := by decide +kernel
theorem de_M_broken0_11 : decode cd_M_broken0 11 = .ok (.iload_n 1, 1) := by decide +kernel
theorem de_M_broken0_12 : decode cd_M_broken0 12 = .ok (.invokevirtual 182, 3) := by decide +kernel
theorem de_M_broken0_15 : decode cd_M_broken0 15 = .ok (.ifCond .ne 9, 3) := by decide +kernel
theorem de_M_broken0_18 : decode cd_M_broken0 18 = .ok (.iinc 1 1, 3) := by decide +kernel
theorem de_M_broken0_21 : decode cd_M_broken0 21 = .ok (.goto (-19), 3) := by decide +kernel
theorem de_M_broken0_24 : decode cd_M_broken0 24 = .ok (.iload_n 1, 1) := by decide +kernel
theorem de_M_broken0_25 : decode cd_M_broken0 25 = .ok (.aload_n 0, 1) := by decide +kernel
theorem de_M_broken0_26 : decode cd_M_broken0 26 = .ok (.getfield 179, 3) := by decide +kernel
theorem de_M_broken0_29 : decode cd_M_broken0 29 = .ok (.if_icmp .ge 9, 3) := by decide +kernel
theorem de_M_broken0_32 : decode cd_M_broken0 32 = .ok (.iload_n 1, 1) := by decide +kernel
theorem de_M_broken0_33 : decode cd_M_broken0 33 = .ok (.iconst 1, 1) := by decide +kernel
theorem de_M_broken0_34 : decode cd_M_broken0 34 = .ok (.iadd, 1) := by decide +kernel
theorem de_M_broken0_35 : decode cd_M_broken0 35 = .ok (.goto 4, 3) := by decide +kernel
theorem de_M_broken0_38 : decode cd_M_broken0 38 = .ok (.iconst 0, 1) := by decide +kernel
theorem de_M_broken0_39 : decode cd_M_broken0 39 = .ok (.ireturn, 1) := by decide +kernel
abbrev cd_M_isBroken : ByteArray := prog_11_method_26_code
abbrev yn_M_isBroken : MethodName := ⟨"StabilitySumsModel", "isBroken", "(I)Z"⟩
theorem de_M_isBroken_0 : decode cd_M_isBroken 0 = .ok (.aload_n 0, 1) := by decide +kernel
theorem de_M_isBroken_1 : decode cd_M_isBroken 1 = .ok (.getfield 64, 3) := by decide +kernel
theorem de_M_isBroken_4 : decode cd_M_isBroken 4 = .ok (.iload_n 1, 1) := by decide +kernel
theorem de_M_isBroken_5 : decode cd_M_isBroken 5 = .ok (.iaload, 1) := by decide +kernel
theorem de_M_isBroken_6 : decode cd_M_isBroken 6 = .ok (.bipush 7, 2) := by decide +kernel
theorem de_M_isBroken_8 : decode cd_M_isBroken 8 = .ok (.if_icmp .le 66, 3) := by decide +kernel
theorem de_M_isBroken_11 : decode cd_M_isBroken 11 = .ok (.aload_n 0, 1) := by decide +kernel
theorem de_M_isBroken_12 : decode cd_M_isBroken 12 = .ok (.getfield 64, 3) := by decide +kernel
theorem de_M_isBroken_15 : decode cd_M_isBroken 15 = .ok (.iload_n 1, 1) := by decide +kernel
theorem de_M_isBroken_16 : decode cd_M_isBroken 16 = .ok (.iaload, 1) := by decide +kernel
theorem de_M_isBroken_17 : decode cd_M_isBroken 17 = .ok (.bipush 8, 2) := by decide +kernel
theorem de_M_isBroken_19 : decode cd_M_isBroken 19 = .ok (.if_icmp .ne 16, 3) := by decide +kernel
theorem de_M_isBroken_22 : decode cd_M_isBroken 22 = .ok (.aload_n 0, 1) := by decide +kernel
theorem de_M_isBroken_23 : decode cd_M_isBroken 23 = .ok (.aload_n 0, 1) := by decide +kernel
theorem de_M_isBroken_24 : decode cd_M_isBroken 24 = .ok (.getfield 68, 3) := by decide +kernel
theorem de_M_isBroken_27 : decode cd_M_isBroken 27 = .ok (.iload_n 1, 1) := by decide +kernel
theorem de_M_isBroken_28 : decode cd_M_isBroken 28 = .ok (.laload, 1) := by decide +kernel
theorem de_M_isBroken_29 : decode cd_M_isBroken 29 = .ok (.invokevirtual 155, 3) := by decide +kernel
theorem de_M_isBroken_32 : decode cd_M_isBroken 32 = .ok (.goto 13, 3) := by decide +kernel
theorem de_M_isBroken_35 : decode cd_M_isBroken 35 = .ok (.aload_n 0, 1) := by decide +kernel
theorem de_M_isBroken_36 : decode cd_M_isBroken 36 = .ok (.aload_n 0, 1) := by decide +kernel
theorem de_M_isBroken_37 : decode cd_M_isBroken 37 = .ok (.getfield 68, 3) := by decide +kernel
theorem de_M_isBroken_40 : decode cd_M_isBroken 40 = .ok (.iload_n 1, 1) := by decide +kernel
theorem de_M_isBroken_41 : decode cd_M_isBroken 41 = .ok (.laload, 1) := by decide +kernel
theorem de_M_isBroken_42 : decode cd_M_isBroken 42 = .ok (.invokevirtual 159, 3) := by decide +kernel
theorem de_M_isBroken_45 : decode cd_M_isBroken 45 = .ok (.lstore_n 2, 1) := by decide +kernel
theorem de_M_isBroken_46 : decode cd_M_isBroken 46 = .ok (.lload_n 2, 1) := by decide +kernel
theorem de_M_isBroken_47 : decode cd_M_isBroken 47 = .ok (.aload_n 0, 1) := by decide +kernel
theorem de_M_isBroken_48 : decode cd_M_isBroken 48 = .ok (.getfield 71, 3) := by decide +kernel
theorem de_M_isBroken_51 : decode cd_M_isBroken 51 = .ok (.iload_n 1, 1) := by decide +kernel
theorem de_M_isBroken_52 : decode cd_M_isBroken 52 = .ok (.laload, 1) := by decide +kernel
theorem de_M_isBroken_53 : decode cd_M_isBroken 53 = .ok (.lcmp, 1) := by decide +kernel
theorem de_M_isBroken_54 : decode cd_M_isBroken 54 = .ok (.ifCond .lt 14, 3) := by decide +kernel
theorem de_M_isBroken_57 : decode cd_M_isBroken 57 = .ok (.lload_n 2, 1) := by decide +kernel
theorem de_M_isBroken_58 : decode cd_M_isBroken 58 = .ok (.aload_n 0, 1) := by decide +kernel
theorem de_M_isBroken_59 : decode cd_M_isBroken 59 = .ok (.getfield 74, 3) := by decide +kernel
theorem de_M_isBroken_62 : decode cd_M_isBroken 62 = .ok (.iload_n 1, 1) := by decide +kernel
theorem de_M_isBroken_63 : decode cd_M_isBroken 63 = .ok (.laload, 1) := by decide +kernel
theorem de_M_isBroken_64 : decode cd_M_isBroken 64 = .ok (.lcmp, 1) := by decide +kernel
theorem de_M_isBroken_65 : decode cd_M_isBroken 65 = .ok (.ifCond .le 7, 3) := by decide +kernel
theorem de_M_isBroken_68 : decode cd_M_isBroken 68 = .ok (.iconst 1, 1) := by decide +kernel
theorem de_M_isBroken_69 : decode cd_M_isBroken 69 = .ok (.goto 4, 3) := by decide +kernel
theorem de_M_isBroken_72 : decode cd_M_isBroken 72 = .ok (.iconst 0, 1) := by decide +kernel
theorem de_M_isBroken_73 : decode cd_M_isBroken 73 = .ok (.ireturn, 1) := by decide +kernel
theorem de_M_isBroken_74 : decode cd_M_isBroken 74 = .ok (.aload_n 0, 1) := by decide +kernel
theorem de_M_isBroken_75 : decode cd_M_isBroken 75 = .ok (.getfield 64, 3) := by decide +kernel
theorem de_M_isBroken_78 : decode cd_M_isBroken 78 = .ok (.iload_n 1, 1) := by decide +kernel
theorem de_M_isBroken_79 : decode cd_M_isBroken 79 = .ok (.iaload, 1) := by decide +kernel
theorem de_M_isBroken_80 : decode cd_M_isBroken 80 = .ok (.invokestatic 132, 3) := by decide +kernel
theorem de_M_isBroken_83 : decode cd_M_isBroken 83 = .ok (.ifCond .eq 15, 3) := by decide +kernel
theorem de_M_isBroken_86 : decode cd_M_isBroken 86 = .ok (.aload_n 0, 1) := by decide +kernel
theorem de_M_isBroken_87 : decode cd_M_isBroken 87 = .ok (.iconst 0, 1) := by decide +kernel
theorem de_M_isBroken_88 : decode cd_M_isBroken 88 = .ok (.invokevirtual 112, 3) := by decide +kernel
theorem de_M_isBroken_91 : decode cd_M_isBroken 91 = .ok (.lconst 0, 1) := by decide +kernel
theorem de_M_isBroken_92 : decode cd_M_isBroken 92 = .ok (.lcmp, 1) := by decide +kernel
theorem de_M_isBroken_93 : decode cd_M_isBroken 93 = .ok (.ifCond .ne 5, 3) := by decide +kernel
theorem de_M_isBroken_96 : decode cd_M_isBroken 96 = .ok (.iconst 1, 1) := by decide +kernel
theorem de_M_isBroken_97 : decode cd_M_isBroken 97 = .ok (.ireturn, 1) := by decide +kernel
theorem de_M_isBroken_98 : decode cd_M_isBroken 98 = .ok (.aload_n 0, 1) := by decide +kernel
theorem de_M_isBroken_99 : decode cd_M_isBroken 99 = .ok (.aload_n 0, 1) := by decide +kernel
theorem de_M_isBroken_100 : decode cd_M_isBroken 100 = .ok (.getfield 64, 3) := by decide +kernel
theorem de_M_isBroken_103 : decode cd_M_isBroken 103 = .ok (.iload_n 1, 1) := by decide +kernel
theorem de_M_isBroken_104 : decode cd_M_isBroken 104 = .ok (.iaload, 1) := by decide +kernel
theorem de_M_isBroken_105 : decode cd_M_isBroken 105 = .ok (.invokevirtual 136, 3) := by decide +kernel
theorem de_M_isBroken_108 : decode cd_M_isBroken 108 = .ok (.aload_n 0, 1) := by decide +kernel
theorem de_M_isBroken_109 : decode cd_M_isBroken 109 = .ok (.getfield 106, 3) := by decide +kernel
theorem de_M_isBroken_112 : decode cd_M_isBroken 112 = .ok (.aload_n 0, 1) := by decide +kernel
theorem de_M_isBroken_113 : decode cd_M_isBroken 113 = .ok (.getfield 109, 3) := by decide +kernel
theorem de_M_isBroken_116 : decode cd_M_isBroken 116 = .ok (.invokestatic 144, 3) := by decide +kernel
theorem de_M_isBroken_119 : decode cd_M_isBroken 119 = .ok (.lstore_n 2, 1) := by decide +kernel
theorem de_M_isBroken_120 : decode cd_M_isBroken 120 = .ok (.lload_n 2, 1) := by decide +kernel
theorem de_M_isBroken_121 : decode cd_M_isBroken 121 = .ok (.aload_n 0, 1) := by decide +kernel
theorem de_M_isBroken_122 : decode cd_M_isBroken 122 = .ok (.getfield 109, 3) := by decide +kernel
theorem de_M_isBroken_125 : decode cd_M_isBroken 125 = .ok (.lmul, 1) := by decide +kernel
theorem de_M_isBroken_126 : decode cd_M_isBroken 126 = .ok (.aload_n 0, 1) := by decide +kernel
theorem de_M_isBroken_127 : decode cd_M_isBroken 127 = .ok (.getfield 106, 3) := by decide +kernel
theorem de_M_isBroken_130 : decode cd_M_isBroken 130 = .ok (.lcmp, 1) := by decide +kernel
theorem de_M_isBroken_131 : decode cd_M_isBroken 131 = .ok (.ifCond .ne 7, 3) := by decide +kernel
theorem de_M_isBroken_134 : decode cd_M_isBroken 134 = .ok (.lload_n 2, 1) := by decide +kernel
theorem de_M_isBroken_135 : decode cd_M_isBroken 135 = .ok (.goto 6, 3) := by decide +kernel
theorem de_M_isBroken_138 : decode cd_M_isBroken 138 = .ok (.lload_n 2, 1) := by decide +kernel
theorem de_M_isBroken_139 : decode cd_M_isBroken 139 = .ok (.lconst 1, 1) := by decide +kernel
theorem de_M_isBroken_140 : decode cd_M_isBroken 140 = .ok (.ladd, 1) := by decide +kernel
theorem de_M_isBroken_141 : decode cd_M_isBroken 141 = .ok (.lstore 4, 2) := by decide +kernel
theorem de_M_isBroken_143 : decode cd_M_isBroken 143 = .ok (.lload_n 2, 1) := by decide +kernel
theorem de_M_isBroken_144 : decode cd_M_isBroken 144 = .ok (.aload_n 0, 1) := by decide +kernel
theorem de_M_isBroken_145 : decode cd_M_isBroken 145 = .ok (.getfield 71, 3) := by decide +kernel
theorem de_M_isBroken_148 : decode cd_M_isBroken 148 = .ok (.iload_n 1, 1) := by decide +kernel
theorem de_M_isBroken_149 : decode cd_M_isBroken 149 = .ok (.laload, 1) := by decide +kernel
theorem de_M_isBroken_150 : decode cd_M_isBroken 150 = .ok (.lcmp, 1) := by decide +kernel
theorem de_M_isBroken_151 : decode cd_M_isBroken 151 = .ok (.ifCond .lt 15, 3) := by decide +kernel
theorem de_M_isBroken_154 : decode cd_M_isBroken 154 = .ok (.lload 4, 2) := by decide +kernel
theorem de_M_isBroken_156 : decode cd_M_isBroken 156 = .ok (.aload_n 0, 1) := by decide +kernel
theorem de_M_isBroken_157 : decode cd_M_isBroken 157 = .ok (.getfield 74, 3) := by decide +kernel
theorem de_M_isBroken_160 : decode cd_M_isBroken 160 = .ok (.iload_n 1, 1) := by decide +kernel
theorem de_M_isBroken_161 : decode cd_M_isBroken 161 = .ok (.laload, 1) := by decide +kernel
theorem de_M_isBroken_162 : decode cd_M_isBroken 162 = .ok (.lcmp, 1) := by decide +kernel
theorem de_M_isBroken_163 : decode cd_M_isBroken 163 = .ok (.ifCond .le 7, 3) := by decide +kernel
theorem de_M_isBroken_166 : decode cd_M_isBroken 166 = .ok (.iconst 1, 1) := by decide +kernel
theorem de_M_isBroken_167 : decode cd_M_isBroken 167 = .ok (.goto 4, 3) := by decide +kernel
theorem de_M_isBroken_170 : decode cd_M_isBroken 170 = .ok (.iconst 0, 1) := by decide +kernel
theorem de_M_isBroken_171 : decode cd_M_isBroken 171 = .ok (.ireturn, 1) := by decide +kernel
abbrev cd_M_ballast : ByteArray := prog_11_method_30_code
abbrev yn_M_ballast : MethodName := ⟨"StabilitySumsModel", "ballast", "()J"⟩
theorem de_M_ballast_0 : decode cd_M_ballast 0 = .ok (.aload_n 0, 1) := by decide +kernel
theorem de_M_ballast_1 : decode cd_M_ballast 1 = .ok (.iconst 0, 1) := by decide +kernel
theorem de_M_ballast_2 : decode cd_M_ballast 2 = .ok (.putfield 87, 3) := by decide +kernel
theorem de_M_ballast_5 : decode cd_M_ballast 5 = .ok (.aload_n 0, 1) := by decide +kernel
theorem de_M_ballast_6 : decode cd_M_ballast 6 = .ok (.invokevirtual 191, 3) := by decide +kernel
theorem de_M_ballast_9 : decode cd_M_ballast 9 = .ok (.lreturn, 1) := by decide +kernel
abbrev cd_M_pump : ByteArray := prog_11_method_29_code
abbrev yn_M_pump : MethodName := ⟨"StabilitySumsModel", "pump", "()J"⟩
theorem de_M_pump_0 : decode cd_M_pump 0 = .ok (.ldc2_w 189, 3) := by decide +kernel
theorem de_M_pump_3 : decode cd_M_pump 3 = .ok (.lstore_n 1, 1) := by decide +kernel
theorem de_M_pump_4 : decode cd_M_pump 4 = .ok (.iconst 0, 1) := by decide +kernel
theorem de_M_pump_5 : decode cd_M_pump 5 = .ok (.istore_n 3, 1) := by decide +kernel
theorem de_M_pump_6 : decode cd_M_pump 6 = .ok (.iload_n 3, 1) := by decide +kernel
theorem de_M_pump_7 : decode cd_M_pump 7 = .ok (.sipush 625, 3) := by decide +kernel
theorem de_M_pump_10 : decode cd_M_pump 10 = .ok (.if_icmp .ge 202, 3) := by decide +kernel
theorem de_M_pump_13 : decode cd_M_pump 13 = .ok (.aload_n 0, 1) := by decide +kernel
theorem de_M_pump_14 : decode cd_M_pump 14 = .ok (.invokevirtual 129, 3) := by decide +kernel
theorem de_M_pump_17 : decode cd_M_pump 17 = .ok (.lconst 0, 1) := by decide +kernel
theorem de_M_pump_18 : decode cd_M_pump 18 = .ok (.lstore 4, 2) := by decide +kernel
theorem de_M_pump_20 : decode cd_M_pump 20 = .ok (.iconst 1, 1) := by decide +kernel
theorem de_M_pump_21 : decode cd_M_pump 21 = .ok (.istore 6, 2) := by decide +kernel
theorem de_M_pump_23 : decode cd_M_pump 23 = .ok (.iload_n 3, 1) := by decide +kernel
theorem de_M_pump_24 : decode cd_M_pump 24 = .ok (.istore 7, 2) := by decide +kernel
theorem de_M_pump_26 : decode cd_M_pump 26 = .ok (.iconst 3, 1) := by decide +kernel
theorem de_M_pump_27 : decode cd_M_pump 27 = .ok (.istore 8, 2) := by decide +kernel
theorem de_M_pump_29 : decode cd_M_pump 29 = .ok (.iload 8, 2) := by decide +kernel
theorem de_M_pump_31 : decode cd_M_pump 31 = .ok (.ifCond .lt 115, 3) := by decide +kernel
theorem de_M_pump_34 : decode cd_M_pump 34 = .ok (.iload 7, 2) := by decide +kernel
theorem de_M_pump_36 : decode cd_M_pump 36 = .ok (.iconst 5, 1) := by decide +kernel
theorem de_M_pump_37 : decode cd_M_pump 37 = .ok (.irem, 1) := by decide +kernel
theorem de_M_pump_38 : decode cd_M_pump 38 = .ok (.istore 9, 2) := by decide +kernel
theorem de_M_pump_40 : decode cd_M_pump 40 = .ok (.iload 7, 2) := by decide +kernel
theorem de_M_pump_42 : decode cd_M_pump 42 = .ok (.iconst 5, 1) := by decide +kernel
theorem de_M_pump_43 : decode cd_M_pump 43 = .ok (.idiv, 1) := by decide +kernel
theorem de_M_pump_44 : decode cd_M_pump 44 = .ok (.istore 7, 2) := by decide +kernel
theorem de_M_pump_46 : decode cd_M_pump 46 = .ok (.iload 6, 2) := by decide +kernel
theorem de_M_pump_48 : decode cd_M_pump 48 = .ok (.ifCond .eq 21, 3) := by decide +kernel
theorem de_M_pump_51 : decode cd_M_pump 51 = .ok (.iload 8, 2) := by decide +kernel
theorem de_M_pump_53 : decode cd_M_pump 53 = .ok (.aload_n 0, 1) := by decide +kernel
theorem de_M_pump_54 : decode cd_M_pump 54 = .ok (.getfield 100, 3) := by decide +kernel
theorem de_M_pump_57 : decode cd_M_pump 57 = .ok (.if_icmp .lt 8, 3) := by decide +kernel
theorem de_M_pump_60 : decode cd_M_pump 60 = .ok (.iload 9, 2) := by decide +kernel
theorem de_M_pump_62 : decode cd_M_pump 62 = .ok (.ifCond .ne 7, 3) := by decide +kernel
theorem de_M_pump_65 : decode cd_M_pump 65 = .ok (.iconst 1, 1) := by decide +kernel
theorem de_M_pump_66 : decode cd_M_pump 66 = .ok (.goto 4, 3) := by decide +kernel
theorem de_M_pump_69 : decode cd_M_pump 69 = .ok (.iconst 0, 1) := by decide +kernel
theorem de_M_pump_70 : decode cd_M_pump 70 = .ok (.istore 6, 2) := by decide +kernel
theorem de_M_pump_72 : decode cd_M_pump 72 = .ok (.iload 8, 2) := by decide +kernel
theorem de_M_pump_74 : decode cd_M_pump 74 = .ok (.aload_n 0, 1) := by decide +kernel
theorem de_M_pump_75 : decode cd_M_pump 75 = .ok (.getfield 100, 3) := by decide +kernel
theorem de_M_pump_78 : decode cd_M_pump 78 = .ok (.if_icmp .ge 62, 3) := by decide +kernel
theorem de_M_pump_81 : decode cd_M_pump 81 = .ok (.aload_n 0, 1) := by decide +kernel
theorem de_M_pump_82 : decode cd_M_pump 82 = .ok (.getfield 43, 3) := by decide +kernel
theorem de_M_pump_85 : decode cd_M_pump 85 = .ok (.iload 8, 2) := by decide +kernel
theorem de_M_pump_87 : decode cd_M_pump 87 = .ok (.aload_n 0, 1) := by decide +kernel
theorem de_M_pump_88 : decode cd_M_pump 88 = .ok (.getfield 22, 3) := by decide +kernel
theorem de_M_pump_91 : decode cd_M_pump 91 = .ok (.iload 8, 2) := by decide +kernel
theorem de_M_pump_93 : decode cd_M_pump 93 = .ok (.laload, 1) := by decide +kernel
theorem de_M_pump_94 : decode cd_M_pump 94 = .ok (.ldc2_w 166, 3) := by decide +kernel
theorem de_M_pump_97 : decode cd_M_pump 97 = .ok (.ldiv, 1) := by decide +kernel
theorem de_M_pump_98 : decode cd_M_pump 98 = .ok (.iload 9, 2) := by decide +kernel
theorem de_M_pump_100 : decode cd_M_pump 100 = .ok (.i2l, 1) := by decide +kernel
theorem de_M_pump_101 : decode cd_M_pump 101 = .ok (.lmul, 1) := by decide +kernel
theorem de_M_pump_102 : decode cd_M_pump 102 = .ok (.lastore, 1) := by decide +kernel
theorem de_M_pump_103 : decode cd_M_pump 103 = .ok (.aload_n 0, 1) := by decide +kernel
theorem de_M_pump_104 : decode cd_M_pump 104 = .ok (.getfield 43, 3) := by decide +kernel
theorem de_M_pump_107 : decode cd_M_pump 107 = .ok (.iload 8, 2) := by decide +kernel
theorem de_M_pump_109 : decode cd_M_pump 109 = .ok (.laload, 1) := by decide +kernel
theorem de_M_pump_110 : decode cd_M_pump 110 = .ok (.aload_n 0, 1) := by decide +kernel
theorem de_M_pump_111 : decode cd_M_pump 111 = .ok (.getfield 37, 3) := by decide +kernel
theorem de_M_pump_114 : decode cd_M_pump 114 = .ok (.iload 8, 2) := by decide +kernel
theorem de_M_pump_116 : decode cd_M_pump 116 = .ok (.laload, 1) := by decide +kernel
theorem de_M_pump_117 : decode cd_M_pump 117 = .ok (.lsub, 1) := by decide +kernel
theorem de_M_pump_118 : decode cd_M_pump 118 = .ok (.lstore 10, 2) := by decide +kernel
theorem de_M_pump_120 : decode cd_M_pump 120 = .ok (.lload 4, 2) := by decide +kernel
theorem de_M_pump_122 : decode cd_M_pump 122 = .ok (.lload 10, 2) := by decide +kernel
theorem de_M_pump_124 : decode cd_M_pump 124 = .ok (.lconst 0, 1) := by decide +kernel
theorem de_M_pump_125 : decode cd_M_pump 125 = .ok (.lcmp, 1) := by decide +kernel
theorem de_M_pump_126 : decode cd_M_pump 126 = .ok (.ifCond .ge 9, 3) := by decide +kernel
theorem de_M_pump_129 : decode cd_M_pump 129 = .ok (.lload 10, 2) := by decide +kernel
theorem de_M_pump_131 : decode cd_M_pump 131 = .ok (.lneg, 1) := by decide +kernel
theorem de_M_pump_132 : decode cd_M_pump 132 = .ok (.goto 5, 3) := by decide +kernel
theorem de_M_pump_135 : decode cd_M_pump 135 = .ok (.lload 10, 2) := by decide +kernel
theorem de_M_pump_137 : decode cd_M_pump 137 = .ok (.ladd, 1) := by decide +kernel
theorem de_M_pump_138 : decode cd_M_pump 138 = .ok (.lstore 4, 2) := by decide +kernel
theorem de_M_pump_140 : decode cd_M_pump 140 = .ok (.iinc 8 (-1), 3) := by decide +kernel
theorem de_M_pump_143 : decode cd_M_pump 143 = .ok (.goto (-114), 3) := by decide +kernel
theorem de_M_pump_146 : decode cd_M_pump 146 = .ok (.iload 6, 2) := by decide +kernel
theorem de_M_pump_148 : decode cd_M_pump 148 = .ok (.ifCond .eq 58, 3) := by decide +kernel
theorem de_M_pump_151 : decode cd_M_pump 151 = .ok (.lload_n 1, 1) := by decide +kernel
theorem de_M_pump_152 : decode cd_M_pump 152 = .ok (.lconst 0, 1) := by decide +kernel
theorem de_M_pump_153 : decode cd_M_pump 153 = .ok (.lcmp, 1) := by decide +kernel
theorem de_M_pump_154 : decode cd_M_pump 154 = .ok (.ifCond .lt 10, 3) := by decide +kernel
theorem de_M_pump_157 : decode cd_M_pump 157 = .ok (.lload 4, 2) := by decide +kernel
theorem de_M_pump_159 : decode cd_M_pump 159 = .ok (.lload_n 1, 1) := by decide +kernel
theorem de_M_pump_160 : decode cd_M_pump 160 = .ok (.lcmp, 1) := by decide +kernel
theorem de_M_pump_161 : decode cd_M_pump 161 = .ok (.ifCond .ge 45, 3) := by decide +kernel
theorem de_M_pump_164 : decode cd_M_pump 164 = .ok (.aload_n 0, 1) := by decide +kernel
theorem de_M_pump_165 : decode cd_M_pump 165 = .ok (.invokevirtual 185, 3) := by decide +kernel
theorem de_M_pump_168 : decode cd_M_pump 168 = .ok (.ifCond .ne 38, 3) := by decide +kernel
theorem de_M_pump_171 : decode cd_M_pump 171 = .ok (.lload 4, 2) := by decide +kernel
theorem de_M_pump_173 : decode cd_M_pump 173 = .ok (.lstore_n 1, 1) := by decide +kernel
theorem de_M_pump_174 : decode cd_M_pump 174 = .ok (.iconst 0, 1) := by decide +kernel
theorem de_M_pump_175 : decode cd_M_pump 175 = .ok (.istore 8, 2) := by decide +kernel
theorem de_M_pump_177 : decode cd_M_pump 177 = .ok (.iload 8, 2) := by decide +kernel
theorem de_M_pump_179 : decode cd_M_pump 179 = .ok (.aload_n 0, 1) := by decide +kernel
theorem de_M_pump_180 : decode cd_M_pump 180 = .ok (.getfield 100, 3) := by decide +kernel
theorem de_M_pump_183 : decode cd_M_pump 183 = .ok (.if_icmp .ge 23, 3) := by decide +kernel
theorem de_M_pump_186 : decode cd_M_pump 186 = .ok (.aload_n 0, 1) := by decide +kernel
theorem de_M_pump_187 : decode cd_M_pump 187 = .ok (.getfield 46, 3) := by decide +kernel
theorem de_M_pump_190 : decode cd_M_pump 190 = .ok (.iload 8, 2) := by decide +kernel
theorem de_M_pump_192 : decode cd_M_pump 192 = .ok (.aload_n 0, 1) := by decide +kernel
theorem de_M_pump_193 : decode cd_M_pump 193 = .ok (.getfield 43, 3) := by decide +kernel
theorem de_M_pump_196 : decode cd_M_pump 196 = .ok (.iload 8, 2) := by decide +kernel
theorem de_M_pump_198 : decode cd_M_pump 198 = .ok (.laload, 1) := by decide +kernel
theorem de_M_pump_199 : decode cd_M_pump 199 = .ok (.lastore, 1) := by decide +kernel
theorem de_M_pump_200 : decode cd_M_pump 200 = .ok (.iinc 8 1, 3) := by decide +kernel
theorem de_M_pump_203 : decode cd_M_pump 203 = .ok (.goto (-26), 3) := by decide +kernel
theorem de_M_pump_206 : decode cd_M_pump 206 = .ok (.iinc 3 1, 3) := by decide +kernel
theorem de_M_pump_209 : decode cd_M_pump 209 = .ok (.goto (-203), 3) := by decide +kernel
theorem de_M_pump_212 : decode cd_M_pump 212 = .ok (.lload_n 1, 1) := by decide +kernel
theorem de_M_pump_213 : decode cd_M_pump 213 = .ok (.lreturn, 1) := by decide +kernel
abbrev cd_M_fill : ByteArray := prog_11_method_31_code
abbrev yn_M_fill : MethodName := ⟨"StabilitySumsModel", "fill", "(I)J"⟩
theorem de_M_fill_0 : decode cd_M_fill 0 = .ok (.aload_n 0, 1) := by decide +kernel
theorem de_M_fill_1 : decode cd_M_fill 1 = .ok (.iload_n 1, 1) := by decide +kernel
theorem de_M_fill_2 : decode cd_M_fill 2 = .ok (.invokevirtual 172, 3) := by decide +kernel
theorem de_M_fill_5 : decode cd_M_fill 5 = .ok (.ifCond .ne 10, 3) := by decide +kernel
theorem de_M_fill_8 : decode cd_M_fill 8 = .ok (.aload_n 0, 1) := by decide +kernel
theorem de_M_fill_9 : decode cd_M_fill 9 = .ok (.iconst 1, 1) := by decide +kernel
theorem de_M_fill_10 : decode cd_M_fill 10 = .ok (.invokevirtual 151, 3) := by decide +kernel
theorem de_M_fill_13 : decode cd_M_fill 13 = .ok (.i2l, 1) := by decide +kernel
theorem de_M_fill_14 : decode cd_M_fill 14 = .ok (.lreturn, 1) := by decide +kernel
theorem de_M_fill_15 : decode cd_M_fill 15 = .ok (.aload_n 0, 1) := by decide +kernel
theorem de_M_fill_16 : decode cd_M_fill 16 = .ok (.iconst 0, 1) := by decide +kernel
theorem de_M_fill_17 : decode cd_M_fill 17 = .ok (.putfield 87, 3) := by decide +kernel
theorem de_M_fill_20 : decode cd_M_fill 20 = .ok (.aload_n 0, 1) := by decide +kernel
theorem de_M_fill_21 : decode cd_M_fill 21 = .ok (.invokevirtual 191, 3) := by decide +kernel
theorem de_M_fill_24 : decode cd_M_fill 24 = .ok (.lconst 0, 1) := by decide +kernel
theorem de_M_fill_25 : decode cd_M_fill 25 = .ok (.lcmp, 1) := by decide +kernel
theorem de_M_fill_26 : decode cd_M_fill 26 = .ok (.ifCond .ge 9, 3) := by decide +kernel
theorem de_M_fill_29 : decode cd_M_fill 29 = .ok (.ldc2_w 189, 3) := by decide +kernel
theorem de_M_fill_32 : decode cd_M_fill 32 = .ok (.goto 9, 3) := by decide +kernel
theorem de_M_fill_35 : decode cd_M_fill 35 = .ok (.aload_n 0, 1) := by decide +kernel
theorem de_M_fill_36 : decode cd_M_fill 36 = .ok (.getfield 46, 3) := by decide +kernel
theorem de_M_fill_39 : decode cd_M_fill 39 = .ok (.iload_n 1, 1) := by decide +kernel
theorem de_M_fill_40 : decode cd_M_fill 40 = .ok (.laload, 1) := by decide +kernel
theorem de_M_fill_41 : decode cd_M_fill 41 = .ok (.lreturn, 1) := by decide +kernel
abbrev cd_M_plan : ByteArray := prog_11_method_32_code
abbrev yn_M_plan : MethodName := ⟨"StabilitySumsModel", "plan", "(ZIJ)I"⟩
theorem de_M_plan_0 : decode cd_M_plan 0 = .ok (.iload_n 2, 1) := by decide +kernel
theorem de_M_plan_1 : decode cd_M_plan 1 = .ok (.ifCond .lt 22, 3) := by decide +kernel
theorem de_M_plan_4 : decode cd_M_plan 4 = .ok (.iload_n 2, 1) := by decide +kernel
theorem de_M_plan_5 : decode cd_M_plan 5 = .ok (.iload_n 1, 1) := by decide +kernel
theorem de_M_plan_6 : decode cd_M_plan 6 = .ok (.ifCond .eq 10, 3) := by decide +kernel
theorem de_M_plan_9 : decode cd_M_plan 9 = .ok (.aload_n 0, 1) := by decide +kernel
theorem de_M_plan_10 : decode cd_M_plan 10 = .ok (.getfield 100, 3) := by decide +kernel
theorem de_M_plan_13 : decode cd_M_plan 13 = .ok (.goto 7, 3) := by decide +kernel
theorem de_M_plan_16 : decode cd_M_plan 16 = .ok (.aload_n 0, 1) := by decide +kernel
theorem de_M_plan_17 : decode cd_M_plan 17 = .ok (.getfield 97, 3) := by decide +kernel
theorem de_M_plan_20 : decode cd_M_plan 20 = .ok (.if_icmp .lt 9, 3) := by decide +kernel
theorem de_M_plan_23 : decode cd_M_plan 23 = .ok (.aload_n 0, 1) := by decide +kernel
theorem de_M_plan_24 : decode cd_M_plan 24 = .ok (.iconst 1, 1) := by decide +kernel
theorem de_M_plan_25 : decode cd_M_plan 25 = .ok (.invokevirtual 151, 3) := by decide +kernel
theorem de_M_plan_28 : decode cd_M_plan 28 = .ok (.ireturn, 1) := by decide +kernel
theorem de_M_plan_29 : decode cd_M_plan 29 = .ok (.iload_n 1, 1) := by decide +kernel
theorem de_M_plan_30 : decode cd_M_plan 30 = .ok (.ifCond .eq 20, 3) := by decide +kernel
theorem de_M_plan_33 : decode cd_M_plan 33 = .ok (.lload_n 3, 1) := by decide +kernel
theorem de_M_plan_34 : decode cd_M_plan 34 = .ok (.lconst 0, 1) := by decide +kernel
theorem de_M_plan_35 : decode cd_M_plan 35 = .ok (.aload_n 0, 1) := by decide +kernel
theorem de_M_plan_36 : decode cd_M_plan 36 = .ok (.getfield 22, 3) := by decide +kernel
theorem de_M_plan_39 : decode cd_M_plan 39 = .ok (.iload_n 2, 1) := by decide +kernel
theorem de_M_plan_40 : decode cd_M_plan 40 = .ok (.laload, 1) := by decide +kernel
theorem de_M_plan_41 : decode cd_M_plan 41 = .ok (.invokestatic 93, 3) := by decide +kernel
theorem de_M_plan_44 : decode cd_M_plan 44 = .ok (.ifCond .ne 25, 3) := by decide +kernel
theorem de_M_plan_47 : decode cd_M_plan 47 = .ok (.goto 16, 3) := by decide +kernel
theorem de_M_plan_50 : decode cd_M_plan 50 = .ok (.lload_n 3, 1) := by decide +kernel
theorem de_M_plan_51 : decode cd_M_plan 51 = .ok (.ldc2_w 162, 3) := by decide +kernel
theorem de_M_plan_54 : decode cd_M_plan 54 = .ok (.ldc2_w 164, 3) := by decide +kernel
theorem de_M_plan_57 : decode cd_M_plan 57 = .ok (.invokestatic 93, 3) := by decide +kernel
theorem de_M_plan_60 : decode cd_M_plan 60 = .ok (.ifCond .ne 9, 3) := by decide +kernel
theorem de_M_plan_63 : decode cd_M_plan 63 = .ok (.aload_n 0, 1) := by decide +kernel
theorem de_M_plan_64 : decode cd_M_plan 64 = .ok (.iconst 2, 1) := by decide +kernel
theorem de_M_plan_65 : decode cd_M_plan 65 = .ok (.invokevirtual 151, 3) := by decide +kernel
theorem de_M_plan_68 : decode cd_M_plan 68 = .ok (.ireturn, 1) := by decide +kernel
theorem de_M_plan_69 : decode cd_M_plan 69 = .ok (.aload_n 0, 1) := by decide +kernel
theorem de_M_plan_70 : decode cd_M_plan 70 = .ok (.getfield 194, 3) := by decide +kernel
theorem de_M_plan_73 : decode cd_M_plan 73 = .ok (.bipush 20, 2) := by decide +kernel
theorem de_M_plan_75 : decode cd_M_plan 75 = .ok (.if_icmp .ne 9, 3) := by decide +kernel
theorem de_M_plan_78 : decode cd_M_plan 78 = .ok (.aload_n 0, 1) := by decide +kernel
theorem de_M_plan_79 : decode cd_M_plan 79 = .ok (.iconst 3, 1) := by decide +kernel
theorem de_M_plan_80 : decode cd_M_plan 80 = .ok (.invokevirtual 151, 3) := by decide +kernel
theorem de_M_plan_83 : decode cd_M_plan 83 = .ok (.ireturn, 1) := by decide +kernel
theorem de_M_plan_84 : decode cd_M_plan 84 = .ok (.aload_n 0, 1) := by decide +kernel
theorem de_M_plan_85 : decode cd_M_plan 85 = .ok (.iconst 0, 1) := by decide +kernel
theorem de_M_plan_86 : decode cd_M_plan 86 = .ok (.putfield 87, 3) := by decide +kernel
theorem de_M_plan_89 : decode cd_M_plan 89 = .ok (.aload_n 0, 1) := by decide +kernel
theorem de_M_plan_90 : decode cd_M_plan 90 = .ok (.getfield 77, 3) := by decide +kernel
theorem de_M_plan_93 : decode cd_M_plan 93 = .ok (.aload_n 0, 1) := by decide +kernel
theorem de_M_plan_94 : decode cd_M_plan 94 = .ok (.getfield 194, 3) := by decide +kernel
theorem de_M_plan_97 : decode cd_M_plan 97 = .ok (.iload_n 1, 1) := by decide +kernel
theorem de_M_plan_98 : decode cd_M_plan 98 = .ok (.bastore, 1) := by decide +kernel
theorem de_M_plan_99 : decode cd_M_plan 99 = .ok (.aload_n 0, 1) := by decide +kernel
theorem de_M_plan_100 : decode cd_M_plan 100 = .ok (.getfield 81, 3) := by decide +kernel
theorem de_M_plan_103 : decode cd_M_plan 103 = .ok (.aload_n 0, 1) := by decide +kernel
theorem de_M_plan_104 : decode cd_M_plan 104 = .ok (.getfield 194, 3) := by decide +kernel
theorem de_M_plan_107 : decode cd_M_plan 107 = .ok (.iload_n 2, 1) := by decide +kernel
theorem de_M_plan_108 : decode cd_M_plan 108 = .ok (.iastore, 1) := by decide +kernel
theorem de_M_plan_109 : decode cd_M_plan 109 = .ok (.aload_n 0, 1) := by decide +kernel
theorem de_M_plan_110 : decode cd_M_plan 110 = .ok (.getfield 84, 3) := by decide +kernel
theorem de_M_plan_113 : decode cd_M_plan 113 = .ok (.aload_n 0, 1) := by decide +kernel
theorem de_M_plan_114 : decode cd_M_plan 114 = .ok (.getfield 194, 3) := by decide +kernel
theorem de_M_plan_117 : decode cd_M_plan 117 = .ok (.lload_n 3, 1) := by decide +kernel
theorem de_M_plan_118 : decode cd_M_plan 118 = .ok (.lastore, 1) := by decide +kernel
theorem de_M_plan_119 : decode cd_M_plan 119 = .ok (.aload_n 0, 1) := by decide +kernel
theorem de_M_plan_120 : decode cd_M_plan 120 = .ok (.dup, 1) := by decide +kernel
theorem de_M_plan_121 : decode cd_M_plan 121 = .ok (.getfield 194, 3) := by decide +kernel
theorem de_M_plan_124 : decode cd_M_plan 124 = .ok (.iconst 1, 1) := by decide +kernel
theorem de_M_plan_125 : decode cd_M_plan 125 = .ok (.iadd, 1) := by decide +kernel
theorem de_M_plan_126 : decode cd_M_plan 126 = .ok (.putfield 194, 3) := by decide +kernel
theorem de_M_plan_129 : decode cd_M_plan 129 = .ok (.aload_n 0, 1) := by decide +kernel
theorem de_M_plan_130 : decode cd_M_plan 130 = .ok (.getfield 194, 3) := by decide +kernel
theorem de_M_plan_133 : decode cd_M_plan 133 = .ok (.iconst 1, 1) := by decide +kernel
theorem de_M_plan_134 : decode cd_M_plan 134 = .ok (.isub, 1) := by decide +kernel
theorem de_M_plan_135 : decode cd_M_plan 135 = .ok (.ireturn, 1) := by decide +kernel
abbrev cd_M_step : ByteArray := prog_11_method_34_code
abbrev yn_M_step : MethodName := ⟨"StabilitySumsModel", "step", "(I)I"⟩
theorem de_M_step_0 : decode cd_M_step 0 = .ok (.iload_n 1, 1) := by decide +kernel
theorem de_M_step_1 : decode cd_M_step 1 = .ok (.ifCond .lt 11, 3) := by decide +kernel
theorem de_M_step_4 : decode cd_M_step 4 = .ok (.iload_n 1, 1) := by decide +kernel
theorem de_M_step_5 : decode cd_M_step 5 = .ok (.aload_n 0, 1) := by decide +kernel
theorem de_M_step_6 : decode cd_M_step 6 = .ok (.getfield 194, 3) := by decide +kernel
theorem de_M_step_9 : decode cd_M_step 9 = .ok (.if_icmp .lt 9, 3) := by decide +kernel
theorem de_M_step_12 : decode cd_M_step 12 = .ok (.aload_n 0, 1) := by decide +kernel
theorem de_M_step_13 : decode cd_M_step 13 = .ok (.iconst 1, 1) := by decide +kernel
theorem de_M_step_14 : decode cd_M_step 14 = .ok (.invokevirtual 151, 3) := by decide +kernel
theorem de_M_step_17 : decode cd_M_step 17 = .ok (.ireturn, 1) := by decide +kernel
theorem de_M_step_18 : decode cd_M_step 18 = .ok (.aload_n 0, 1) := by decide +kernel
theorem de_M_step_19 : decode cd_M_step 19 = .ok (.iconst 0, 1) := by decide +kernel
theorem de_M_step_20 : decode cd_M_step 20 = .ok (.putfield 87, 3) := by decide +kernel
theorem de_M_step_23 : decode cd_M_step 23 = .ok (.aload_n 0, 1) := by decide +kernel
theorem de_M_step_24 : decode cd_M_step 24 = .ok (.iload_n 1, 1) := by decide +kernel
theorem de_M_step_25 : decode cd_M_step 25 = .ok (.invokevirtual 197, 3) := by decide +kernel
theorem de_M_step_28 : decode cd_M_step 28 = .ok (.ireturn, 1) := by decide +kernel
abbrev cd_M_brokenBehind : ByteArray := prog_11_method_33_code
abbrev yn_M_brokenBehind : MethodName := ⟨"StabilitySumsModel", "brokenBehind", "(I)I"⟩
theorem de_M_brokenBehind_0 : decode cd_M_brokenBehind 0 = .ok (.aload_n 0, 1) := by decide +kernel
theorem de_M_brokenBehind_1 : decode cd_M_brokenBehind 1 = .ok (.invokevirtual 129, 3) := by decide +kernel
theorem de_M_brokenBehind_4 : decode cd_M_brokenBehind 4 = .ok (.iconst 0, 1) := by decide +kernel
theorem de_M_brokenBehind_5 : decode cd_M_brokenBehind 5 = .ok (.istore_n 2, 1) := by decide +kernel
theorem de_M_brokenBehind_6 : decode cd_M_brokenBehind 6 = .ok (.iload_n 2, 1) := by decide +kernel
theorem de_M_brokenBehind_7 : decode cd_M_brokenBehind 7 = .ok (.iload_n 1, 1) := by decide +kernel
theorem de_M_brokenBehind_8 : decode cd_M_brokenBehind 8 = .ok (.if_icmp .gt 58, 3) := by decide +kernel
theorem de_M_brokenBehind_11 : decode cd_M_brokenBehind 11 = .ok (.aload_n 0, 1) := by decide +kernel
theorem de_M_brokenBehind_12 : decode cd_M_brokenBehind 12 = .ok (.getfield 77, 3) := by decide +kernel
theorem de_M_brokenBehind_15 : decode cd_M_brokenBehind 15 = .ok (.iload_n 2, 1) := by decide +kernel
theorem de_M_brokenBehind_16 : decode cd_M_brokenBehind 16 = .ok (.baload, 1) := by decide +kernel
theorem de_M_brokenBehind_17 : decode cd_M_brokenBehind 17 = .ok (.ifCond .eq 23, 3) := by decide +kernel
theorem de_M_brokenBehind_20 : decode cd_M_brokenBehind 20 = .ok (.aload_n 0, 1) := by decide +kernel
theorem de_M_brokenBehind_21 : decode cd_M_brokenBehind 21 = .ok (.getfield 43, 3) := by decide +kernel
theorem de_M_brokenBehind_24 : decode cd_M_brokenBehind 24 = .ok (.aload_n 0, 1) := by decide +kernel
theorem de_M_brokenBehind_25 : decode cd_M_brokenBehind 25 = .ok (.getfield 81, 3) := by decide +kernel
theorem de_M_brokenBehind_28 : decode cd_M_brokenBehind 28 = .ok (.iload_n 2, 1) := by decide +kernel
theorem de_M_brokenBehind_29 : decode cd_M_brokenBehind 29 = .ok (.iaload, 1) := by decide +kernel
theorem de_M_brokenBehind_30 : decode cd_M_brokenBehind 30 = .ok (.aload_n 0, 1) := by decide +kernel
theorem de_M_brokenBehind_31 : decode cd_M_brokenBehind 31 = .ok (.getfield 84, 3) := by decide +kernel
theorem de_M_brokenBehind_34 : decode cd_M_brokenBehind 34 = .ok (.iload_n 2, 1) := by decide +kernel
theorem de_M_brokenBehind_35 : decode cd_M_brokenBehind 35 = .ok (.laload, 1) := by decide +kernel
theorem de_M_brokenBehind_36 : decode cd_M_brokenBehind 36 = .ok (.lastore, 1) := by decide +kernel
theorem de_M_brokenBehind_37 : decode cd_M_brokenBehind 37 = .ok (.goto 23, 3) := by decide +kernel
theorem de_M_brokenBehind_40 : decode cd_M_brokenBehind 40 = .ok (.aload_n 0, 1) := by decide +kernel
theorem de_M_brokenBehind_41 : decode cd_M_brokenBehind 41 = .ok (.getfield 40, 3) := by decide +kernel
theorem de_M_brokenBehind_44 : decode cd_M_brokenBehind 44 = .ok (.aload_n 0, 1) := by decide +kernel
theorem de_M_brokenBehind_45 : decode cd_M_brokenBehind 45 = .ok (.getfield 81, 3) := by decide +kernel
theorem de_M_brokenBehind_48 : decode cd_M_brokenBehind 48 = .ok (.iload_n 2, 1) := by decide +kernel
theorem de_M_brokenBehind_49 : decode cd_M_brokenBehind 49 = .ok (.iaload, 1) := by decide +kernel
theorem de_M_brokenBehind_50 : decode cd_M_brokenBehind 50 = .ok (.dup2, 1) := by decide +kernel
theorem de_M_brokenBehind_51 : decode cd_M_brokenBehind 51 = .ok (.laload, 1) := by decide +kernel
theorem de_M_brokenBehind_52 : decode cd_M_brokenBehind 52 = .ok (.aload_n 0, 1) := by decide +kernel
theorem de_M_brokenBehind_53 : decode cd_M_brokenBehind 53 = .ok (.getfield 84, 3) := by decide +kernel
theorem de_M_brokenBehind_56 : decode cd_M_brokenBehind 56 = .ok (.iload_n 2, 1) := by decide +kernel
theorem de_M_brokenBehind_57 : decode cd_M_brokenBehind 57 = .ok (.laload, 1) := by decide +kernel
theorem de_M_brokenBehind_58 : decode cd_M_brokenBehind 58 = .ok (.ladd, 1) := by decide +kernel
theorem de_M_brokenBehind_59 : decode cd_M_brokenBehind 59 = .ok (.lastore, 1) := by decide +kernel
theorem de_M_brokenBehind_60 : decode cd_M_brokenBehind 60 = .ok (.iinc 2 1, 3) := by decide +kernel
theorem de_M_brokenBehind_63 : decode cd_M_brokenBehind 63 = .ok (.goto (-57), 3) := by decide +kernel
theorem de_M_brokenBehind_66 : decode cd_M_brokenBehind 66 = .ok (.aload_n 0, 1) := by decide +kernel
theorem de_M_brokenBehind_67 : decode cd_M_brokenBehind 67 = .ok (.invokevirtual 185, 3) := by decide +kernel
theorem de_M_brokenBehind_70 : decode cd_M_brokenBehind 70 = .ok (.ireturn, 1) := by decide +kernel
abbrev cd_M_broken : ByteArray := prog_11_method_35_code
abbrev yn_M_broken : MethodName := ⟨"StabilitySumsModel", "broken", "()I"⟩
theorem de_M_broken_0 : decode cd_M_broken 0 = .ok (.aload_n 0, 1) := by decide +kernel
theorem de_M_broken_1 : decode cd_M_broken 1 = .ok (.iconst 0, 1) := by decide +kernel
theorem de_M_broken_2 : decode cd_M_broken 2 = .ok (.putfield 87, 3) := by decide +kernel
theorem de_M_broken_5 : decode cd_M_broken 5 = .ok (.iconst 0, 1) := by decide +kernel
theorem de_M_broken_6 : decode cd_M_broken 6 = .ok (.istore_n 1, 1) := by decide +kernel
theorem de_M_broken_7 : decode cd_M_broken 7 = .ok (.iload_n 1, 1) := by decide +kernel
theorem de_M_broken_8 : decode cd_M_broken 8 = .ok (.aload_n 0, 1) := by decide +kernel
theorem de_M_broken_9 : decode cd_M_broken 9 = .ok (.getfield 194, 3) := by decide +kernel
theorem de_M_broken_12 : decode cd_M_broken 12 = .ok (.if_icmp .ge 19, 3) := by decide +kernel
theorem de_M_broken_15 : decode cd_M_broken 15 = .ok (.aload_n 0, 1) := by decide +kernel
theorem de_M_broken_16 : decode cd_M_broken 16 = .ok (.iload_n 1, 1) := by decide +kernel
theorem de_M_broken_17 : decode cd_M_broken 17 = .ok (.invokevirtual 197, 3) := by decide +kernel
theorem de_M_broken_20 : decode cd_M_broken 20 = .ok (.ifCond .le 5, 3) := by decide +kernel
theorem de_M_broken_23 : decode cd_M_broken 23 = .ok (.iload_n 1, 1) := by decide +kernel
theorem de_M_broken_24 : decode cd_M_broken 24 = .ok (.ireturn, 1) := by decide +kernel
theorem de_M_broken_25 : decode cd_M_broken 25 = .ok (.iinc 1 1, 3) := by decide +kernel
theorem de_M_broken_28 : decode cd_M_broken 28 = .ok (.goto (-21), 3) := by decide +kernel
theorem de_M_broken_31 : decode cd_M_broken 31 = .ok (.iconst (-1), 1) := by decide +kernel
theorem de_M_broken_32 : decode cd_M_broken 32 = .ok (.ireturn, 1) := by decide +kernel
abbrev cd_M_count : ByteArray := prog_11_method_36_code
abbrev yn_M_count : MethodName := ⟨"StabilitySumsModel", "count", "(I)I"⟩
theorem de_M_count_0 : decode cd_M_count 0 = .ok (.aload_n 0, 1) := by decide +kernel
theorem de_M_count_1 : decode cd_M_count 1 = .ok (.iconst 0, 1) := by decide +kernel
theorem de_M_count_2 : decode cd_M_count 2 = .ok (.putfield 87, 3) := by decide +kernel
theorem de_M_count_5 : decode cd_M_count 5 = .ok (.iconst 0, 1) := by decide +kernel
theorem de_M_count_6 : decode cd_M_count 6 = .ok (.istore_n 2, 1) := by decide +kernel
theorem de_M_count_7 : decode cd_M_count 7 = .ok (.iconst 0, 1) := by decide +kernel
theorem de_M_count_8 : decode cd_M_count 8 = .ok (.istore_n 3, 1) := by decide +kernel
theorem de_M_count_9 : decode cd_M_count 9 = .ok (.iload_n 3, 1) := by decide +kernel
theorem de_M_count_10 : decode cd_M_count 10 = .ok (.aload_n 0, 1) := by decide +kernel
theorem de_M_count_11 : decode cd_M_count 11 = .ok (.getfield 100, 3) := by decide +kernel
theorem de_M_count_14 : decode cd_M_count 14 = .ok (.if_icmp .ge 44, 3) := by decide +kernel
theorem de_M_count_17 : decode cd_M_count 17 = .ok (.iload_n 2, 1) := by decide +kernel
theorem de_M_count_18 : decode cd_M_count 18 = .ok (.aload_n 0, 1) := by decide +kernel
theorem de_M_count_19 : decode cd_M_count 19 = .ok (.getfield 37, 3) := by decide +kernel
theorem de_M_count_22 : decode cd_M_count 22 = .ok (.iload_n 3, 1) := by decide +kernel
theorem de_M_count_23 : decode cd_M_count 23 = .ok (.laload, 1) := by decide +kernel
theorem de_M_count_24 : decode cd_M_count 24 = .ok (.lconst 0, 1) := by decide +kernel
theorem de_M_count_25 : decode cd_M_count 25 = .ok (.lcmp, 1) := by decide +kernel
theorem de_M_count_26 : decode cd_M_count 26 = .ok (.ifCond .le 23, 3) := by decide +kernel
theorem de_M_count_29 : decode cd_M_count 29 = .ok (.aload_n 0, 1) := by decide +kernel
theorem de_M_count_30 : decode cd_M_count 30 = .ok (.getfield 37, 3) := by decide +kernel
theorem de_M_count_33 : decode cd_M_count 33 = .ok (.iload_n 3, 1) := by decide +kernel
theorem de_M_count_34 : decode cd_M_count 34 = .ok (.laload, 1) := by decide +kernel
theorem de_M_count_35 : decode cd_M_count 35 = .ok (.aload_n 0, 1) := by decide +kernel
theorem de_M_count_36 : decode cd_M_count 36 = .ok (.getfield 22, 3) := by decide +kernel
theorem de_M_count_39 : decode cd_M_count 39 = .ok (.iload_n 3, 1) := by decide +kernel
theorem de_M_count_40 : decode cd_M_count 40 = .ok (.laload, 1) := by decide +kernel
theorem de_M_count_41 : decode cd_M_count 41 = .ok (.lcmp, 1) := by decide +kernel
theorem de_M_count_42 : decode cd_M_count 42 = .ok (.ifCond .ge 7, 3) := by decide +kernel
theorem de_M_count_45 : decode cd_M_count 45 = .ok (.iconst 1, 1) := by decide +kernel
theorem de_M_count_46 : decode cd_M_count 46 = .ok (.goto 4, 3) := by decide +kernel
theorem de_M_count_49 : decode cd_M_count 49 = .ok (.iconst 0, 1) := by decide +kernel
theorem de_M_count_50 : decode cd_M_count 50 = .ok (.iadd, 1) := by decide +kernel
theorem de_M_count_51 : decode cd_M_count 51 = .ok (.istore_n 2, 1) := by decide +kernel
theorem de_M_count_52 : decode cd_M_count 52 = .ok (.iinc 3 1, 3) := by decide +kernel
theorem de_M_count_55 : decode cd_M_count 55 = .ok (.goto (-46), 3) := by decide +kernel
theorem de_M_count_58 : decode cd_M_count 58 = .ok (.iload_n 1, 1) := by decide +kernel
theorem de_M_count_59 : decode cd_M_count 59 = .ok (.tableswitch 64 0 5 #[37, 42, 47, 52, 57, 62], 37) := by decide +kernel
theorem de_M_count_96 : decode cd_M_count 96 = .ok (.aload_n 0, 1) := by decide +kernel
theorem de_M_count_97 : decode cd_M_count 97 = .ok (.getfield 97, 3) := by decide +kernel
theorem de_M_count_100 : decode cd_M_count 100 = .ok (.ireturn, 1) := by decide +kernel
theorem de_M_count_101 : decode cd_M_count 101 = .ok (.aload_n 0, 1) := by decide +kernel
theorem de_M_count_102 : decode cd_M_count 102 = .ok (.getfield 100, 3) := by decide +kernel
theorem de_M_count_105 : decode cd_M_count 105 = .ok (.ireturn, 1) := by decide +kernel
theorem de_M_count_106 : decode cd_M_count 106 = .ok (.aload_n 0, 1) := by decide +kernel
theorem de_M_count_107 : decode cd_M_count 107 = .ok (.getfield 103, 3) := by decide +kernel
theorem de_M_count_110 : decode cd_M_count 110 = .ok (.ireturn, 1) := by decide +kernel
theorem de_M_count_111 : decode cd_M_count 111 = .ok (.aload_n 0, 1) := by decide +kernel
theorem de_M_count_112 : decode cd_M_count 112 = .ok (.getfield 179, 3) := by decide +kernel
theorem de_M_count_115 : decode cd_M_count 115 = .ok (.ireturn, 1) := by decide +kernel
theorem de_M_count_116 : decode cd_M_count 116 = .ok (.aload_n 0, 1) := by decide +kernel
theorem de_M_count_117 : decode cd_M_count 117 = .ok (.getfield 194, 3) := by decide +kernel
theorem de_M_count_120 : decode cd_M_count 120 = .ok (.ireturn, 1) := by decide +kernel
theorem de_M_count_121 : decode cd_M_count 121 = .ok (.iload_n 2, 1) := by decide +kernel
theorem de_M_count_122 : decode cd_M_count 122 = .ok (.ireturn, 1) := by decide +kernel
theorem de_M_count_123 : decode cd_M_count 123 = .ok (.iconst (-1), 1) := by decide +kernel
theorem de_M_count_124 : decode cd_M_count 124 = .ok (.ireturn, 1) := by decide +kernel
end
section
def TB_W : u_T := fun k => match k with
  | 0 => ("StabilitySums$Weights", "kg", "[J", true)
  | 1 => ("StabilitySums$Weights", "x", "[J", true)
  | 2 => ("StabilitySums$Weights", "y", "[J", true)
  | 3 => ("StabilitySums$Weights", "z", "[J", true)
  | _ => ("StabilitySums$Weights", "count", "I", false)
def tt_W : Nat → FieldType := fun k => match k with
  | 0 => .array .long
  | 1 => .array .long
  | 2 => .array .long
  | 3 => .array .long
  | _ => .int
theorem nm_W : ∀ a, a < 5 → ∀ b, b < 5 → a ≠ b → (TB_W a).2.1 ≠ (TB_W b).2.1 := by decide +kernel
theorem tk_W : ∀ k, k < 5 → parseFieldDescriptor (TB_W k).2.2.1 = some (tt_W k) := by decide +kernel
theorem ui_W : ∀ w ∈ u_ws "StabilitySums$Weights" TB_W 5, w ∈ UW := by
  have h : u_ws "StabilitySums$Weights" TB_W 5 = [(Jvm.Cond.laysFinal "StabilitySums$Weights" "StabilitySums$Weights" "kg" "[J"), (Jvm.Cond.laysFinal "StabilitySums$Weights" "StabilitySums$Weights" "x" "[J"), (Jvm.Cond.laysFinal "StabilitySums$Weights" "StabilitySums$Weights" "y" "[J"), (Jvm.Cond.laysFinal "StabilitySums$Weights" "StabilitySums$Weights" "z" "[J"), (Jvm.Cond.lays "StabilitySums$Weights" "StabilitySums$Weights" "count" "I")] := by decide +kernel
  rw [h]
  exact List.forall_mem_cons.mpr ⟨uw_69, List.forall_mem_cons.mpr ⟨uw_71, List.forall_mem_cons.mpr ⟨uw_73, List.forall_mem_cons.mpr ⟨uw_75, List.forall_mem_cons.mpr ⟨uw_77, fun _ h => nomatch h⟩⟩⟩⟩⟩
def TB_T : u_T := fun k => match k with
  | 0 => ("StabilitySums$Tanks", "most", "[J", true)
  | 1 => ("StabilitySums$Tanks", "surface", "[J", true)
  | 2 => ("StabilitySums$Tanks", "x", "[J", true)
  | 3 => ("StabilitySums$Tanks", "y", "[J", true)
  | 4 => ("StabilitySums$Tanks", "z", "[J", true)
  | 5 => ("StabilitySums$Tanks", "filled", "[J", true)
  | 6 => ("StabilitySums$Tanks", "tried", "[J", true)
  | 7 => ("StabilitySums$Tanks", "found", "[J", true)
  | _ => ("StabilitySums$Tanks", "count", "I", false)
def tt_T : Nat → FieldType := fun k => match k with
  | 0 => .array .long
  | 1 => .array .long
  | 2 => .array .long
  | 3 => .array .long
  | 4 => .array .long
  | 5 => .array .long
  | 6 => .array .long
  | 7 => .array .long
  | _ => .int
theorem nm_T : ∀ a, a < 9 → ∀ b, b < 9 → a ≠ b → (TB_T a).2.1 ≠ (TB_T b).2.1 := by decide +kernel
theorem tk_T : ∀ k, k < 9 → parseFieldDescriptor (TB_T k).2.2.1 = some (tt_T k) := by decide +kernel
theorem ui_T : ∀ w ∈ u_ws "StabilitySums$Tanks" TB_T 9, w ∈ UW := by
  have h : u_ws "StabilitySums$Tanks" TB_T 9 = [(Jvm.Cond.laysFinal "StabilitySums$Tanks" "StabilitySums$Tanks" "most" "[J"), (Jvm.Cond.laysFinal "StabilitySums$Tanks" "StabilitySums$Tanks" "surface" "[J"), (Jvm.Cond.laysFinal "StabilitySums$Tanks" "StabilitySums$Tanks" "x" "[J"), (Jvm.Cond.laysFinal "StabilitySums$Tanks" "StabilitySums$Tanks" "y" "[J"), (Jvm.Cond.laysFinal "StabilitySums$Tanks" "StabilitySums$Tanks" "z" "[J"), (Jvm.Cond.laysFinal "StabilitySums$Tanks" "StabilitySums$Tanks" "filled" "[J"), (Jvm.Cond.laysFinal "StabilitySums$Tanks" "StabilitySums$Tanks" "tried" "[J"), (Jvm.Cond.laysFinal "StabilitySums$Tanks" "StabilitySums$Tanks" "found" "[J"), (Jvm.Cond.lays "StabilitySums$Tanks" "StabilitySums$Tanks" "count" "I")] := by decide +kernel
  rw [h]
  exact List.forall_mem_cons.mpr ⟨uw_104, List.forall_mem_cons.mpr ⟨uw_106, List.forall_mem_cons.mpr ⟨uw_108, List.forall_mem_cons.mpr ⟨uw_110, List.forall_mem_cons.mpr ⟨uw_112, List.forall_mem_cons.mpr ⟨uw_114, List.forall_mem_cons.mpr ⟨uw_116, List.forall_mem_cons.mpr ⟨uw_118, List.forall_mem_cons.mpr ⟨uw_120, fun _ h => nomatch h⟩⟩⟩⟩⟩⟩⟩⟩⟩
def TB_B : u_T := fun k => match k with
  | 0 => ("StabilitySums$Table", "displacement", "[J", true)
  | 1 => ("StabilitySums$Table", "height", "[J", true)
  | 2 => ("StabilitySums$Table", "draft", "[J", true)
  | _ => ("StabilitySums$Table", "count", "I", false)
def tt_B : Nat → FieldType := fun k => match k with
  | 0 => .array .long
  | 1 => .array .long
  | 2 => .array .long
  | _ => .int
theorem nm_B : ∀ a, a < 4 → ∀ b, b < 4 → a ≠ b → (TB_B a).2.1 ≠ (TB_B b).2.1 := by decide +kernel
theorem tk_B : ∀ k, k < 4 → parseFieldDescriptor (TB_B k).2.2.1 = some (tt_B k) := by decide +kernel
theorem ui_B : ∀ w ∈ u_ws "StabilitySums$Table" TB_B 4, w ∈ UW := by
  have h : u_ws "StabilitySums$Table" TB_B 4 = [(Jvm.Cond.laysFinal "StabilitySums$Table" "StabilitySums$Table" "displacement" "[J"), (Jvm.Cond.laysFinal "StabilitySums$Table" "StabilitySums$Table" "height" "[J"), (Jvm.Cond.laysFinal "StabilitySums$Table" "StabilitySums$Table" "draft" "[J"), (Jvm.Cond.lays "StabilitySums$Table" "StabilitySums$Table" "count" "I")] := by decide +kernel
  rw [h]
  exact List.forall_mem_cons.mpr ⟨uw_136, List.forall_mem_cons.mpr ⟨uw_138, List.forall_mem_cons.mpr ⟨uw_140, List.forall_mem_cons.mpr ⟨uw_142, fun _ h => nomatch h⟩⟩⟩⟩
def TB_L : u_T := fun k => match k with
  | 0 => ("StabilitySums$Limits", "what", "[I", true)
  | 1 => ("StabilitySums$Limits", "low", "[J", true)
  | 2 => ("StabilitySums$Limits", "high", "[J", true)
  | _ => ("StabilitySums$Limits", "count", "I", false)
def tt_L : Nat → FieldType := fun k => match k with
  | 0 => .array .int
  | 1 => .array .long
  | 2 => .array .long
  | _ => .int
theorem nm_L : ∀ a, a < 4 → ∀ b, b < 4 → a ≠ b → (TB_L a).2.1 ≠ (TB_L b).2.1 := by decide +kernel
theorem tk_L : ∀ k, k < 4 → parseFieldDescriptor (TB_L k).2.2.1 = some (tt_L k) := by decide +kernel
theorem ui_L : ∀ w ∈ u_ws "StabilitySums$Limits" TB_L 4, w ∈ UW := by
  have h : u_ws "StabilitySums$Limits" TB_L 4 = [(Jvm.Cond.laysFinal "StabilitySums$Limits" "StabilitySums$Limits" "what" "[I"), (Jvm.Cond.laysFinal "StabilitySums$Limits" "StabilitySums$Limits" "low" "[J"), (Jvm.Cond.laysFinal "StabilitySums$Limits" "StabilitySums$Limits" "high" "[J"), (Jvm.Cond.lays "StabilitySums$Limits" "StabilitySums$Limits" "count" "I")] := by decide +kernel
  rw [h]
  exact List.forall_mem_cons.mpr ⟨uw_157, List.forall_mem_cons.mpr ⟨uw_159, List.forall_mem_cons.mpr ⟨uw_161, List.forall_mem_cons.mpr ⟨uw_163, fun _ h => nomatch h⟩⟩⟩⟩
def TB_E : u_T := fun k => match k with
  | 0 => ("StabilitySums$Steps", "ofTank", "[Z", true)
  | 1 => ("StabilitySums$Steps", "number", "[I", true)
  | 2 => ("StabilitySums$Steps", "kg", "[J", true)
  | _ => ("StabilitySums$Steps", "count", "I", false)
def tt_E : Nat → FieldType := fun k => match k with
  | 0 => .array .boolean
  | 1 => .array .int
  | 2 => .array .long
  | _ => .int
theorem nm_E : ∀ a, a < 4 → ∀ b, b < 4 → a ≠ b → (TB_E a).2.1 ≠ (TB_E b).2.1 := by decide +kernel
theorem tk_E : ∀ k, k < 4 → parseFieldDescriptor (TB_E k).2.2.1 = some (tt_E k) := by decide +kernel
theorem ui_E : ∀ w ∈ u_ws "StabilitySums$Steps" TB_E 4, w ∈ UW := by
  have h : u_ws "StabilitySums$Steps" TB_E 4 = [(Jvm.Cond.laysFinal "StabilitySums$Steps" "StabilitySums$Steps" "ofTank" "[Z"), (Jvm.Cond.laysFinal "StabilitySums$Steps" "StabilitySums$Steps" "number" "[I"), (Jvm.Cond.laysFinal "StabilitySums$Steps" "StabilitySums$Steps" "kg" "[J"), (Jvm.Cond.lays "StabilitySums$Steps" "StabilitySums$Steps" "count" "I")] := by decide +kernel
  rw [h]
  exact List.forall_mem_cons.mpr ⟨uw_181, List.forall_mem_cons.mpr ⟨uw_183, List.forall_mem_cons.mpr ⟨uw_185, List.forall_mem_cons.mpr ⟨uw_187, fun _ h => nomatch h⟩⟩⟩⟩
def TB_U : u_T := fun k => match k with
  | 0 => ("StabilitySums$Sums", "displacement", "J", false)
  | 1 => ("StabilitySums$Sums", "x", "J", false)
  | 2 => ("StabilitySums$Sums", "y", "J", false)
  | 3 => ("StabilitySums$Sums", "z", "J", false)
  | _ => ("StabilitySums$Sums", "surfaces", "J", false)
def tt_U : Nat → FieldType := fun k => match k with
  | 0 => .long
  | 1 => .long
  | 2 => .long
  | 3 => .long
  | _ => .long
theorem nm_U : ∀ a, a < 5 → ∀ b, b < 5 → a ≠ b → (TB_U a).2.1 ≠ (TB_U b).2.1 := by decide +kernel
theorem tk_U : ∀ k, k < 5 → parseFieldDescriptor (TB_U k).2.2.1 = some (tt_U k) := by decide +kernel
theorem ui_U : ∀ w ∈ u_ws "StabilitySums$Sums" TB_U 5, w ∈ UW := by
  have h : u_ws "StabilitySums$Sums" TB_U 5 = [(Jvm.Cond.lays "StabilitySums$Sums" "StabilitySums$Sums" "displacement" "J"), (Jvm.Cond.lays "StabilitySums$Sums" "StabilitySums$Sums" "x" "J"), (Jvm.Cond.lays "StabilitySums$Sums" "StabilitySums$Sums" "y" "J"), (Jvm.Cond.lays "StabilitySums$Sums" "StabilitySums$Sums" "z" "J"), (Jvm.Cond.lays "StabilitySums$Sums" "StabilitySums$Sums" "surfaces" "J")] := by decide +kernel
  rw [h]
  exact List.forall_mem_cons.mpr ⟨uw_207, List.forall_mem_cons.mpr ⟨uw_209, List.forall_mem_cons.mpr ⟨uw_211, List.forall_mem_cons.mpr ⟨uw_213, List.forall_mem_cons.mpr ⟨uw_215, fun _ h => nomatch h⟩⟩⟩⟩⟩
def TB_C : u_T := fun k => match k with
  | 0 => ("StabilitySums$Cuts", "place", "[J", true)
  | 1 => ("StabilitySums$Cuts", "kg", "[J", true)
  | 2 => ("StabilitySums$Cuts", "turn", "[J", true)
  | _ => ("StabilitySums$Cuts", "last", "I", false)
def tt_C : Nat → FieldType := fun k => match k with
  | 0 => .array .long
  | 1 => .array .long
  | 2 => .array .long
  | _ => .int
theorem nm_C : ∀ a, a < 4 → ∀ b, b < 4 → a ≠ b → (TB_C a).2.1 ≠ (TB_C b).2.1 := by decide +kernel
theorem tk_C : ∀ k, k < 4 → parseFieldDescriptor (TB_C k).2.2.1 = some (tt_C k) := by decide +kernel
theorem ui_C : ∀ w ∈ u_ws "StabilitySums$Cuts" TB_C 4, w ∈ UW := by
  have h : u_ws "StabilitySums$Cuts" TB_C 4 = [(Jvm.Cond.laysFinal "StabilitySums$Cuts" "StabilitySums$Cuts" "place" "[J"), (Jvm.Cond.laysFinal "StabilitySums$Cuts" "StabilitySums$Cuts" "kg" "[J"), (Jvm.Cond.laysFinal "StabilitySums$Cuts" "StabilitySums$Cuts" "turn" "[J"), (Jvm.Cond.lays "StabilitySums$Cuts" "StabilitySums$Cuts" "last" "I")] := by decide +kernel
  rw [h]
  exact List.forall_mem_cons.mpr ⟨uw_231, List.forall_mem_cons.mpr ⟨uw_233, List.forall_mem_cons.mpr ⟨uw_235, List.forall_mem_cons.mpr ⟨uw_237, fun _ h => nomatch h⟩⟩⟩⟩
def TB_F : u_T := fun k => match k with
  | 0 => ("StabilitySums$Fraction", "top", "J", false)
  | _ => ("StabilitySums$Fraction", "bottom", "J", false)
def tt_F : Nat → FieldType := fun k => match k with
  | 0 => .long
  | _ => .long
theorem nm_F : ∀ a, a < 2 → ∀ b, b < 2 → a ≠ b → (TB_F a).2.1 ≠ (TB_F b).2.1 := by decide +kernel
theorem tk_F : ∀ k, k < 2 → parseFieldDescriptor (TB_F k).2.2.1 = some (tt_F k) := by decide +kernel
theorem ui_F : ∀ w ∈ u_ws "StabilitySums$Fraction" TB_F 2, w ∈ UW := by
  have h : u_ws "StabilitySums$Fraction" TB_F 2 = [(Jvm.Cond.lays "StabilitySums$Fraction" "StabilitySums$Fraction" "top" "J"), (Jvm.Cond.lays "StabilitySums$Fraction" "StabilitySums$Fraction" "bottom" "J")] := by decide +kernel
  rw [h]
  exact List.forall_mem_cons.mpr ⟨uw_250, List.forall_mem_cons.mpr ⟨uw_252, fun _ h => nomatch h⟩⟩
def TB_S : u_T := fun k => match k with
  | 0 => ("StabilitySums", "weights", "LStabilitySums$Weights;", true)
  | 1 => ("StabilitySums", "tanks", "LStabilitySums$Tanks;", true)
  | 2 => ("StabilitySums", "table", "LStabilitySums$Table;", true)
  | 3 => ("StabilitySums", "limits", "LStabilitySums$Limits;", true)
  | 4 => ("StabilitySums", "steps", "LStabilitySums$Steps;", true)
  | 5 => ("StabilitySums", "sums", "LStabilitySums$Sums;", true)
  | 6 => ("StabilitySums", "cuts", "LStabilitySums$Cuts;", true)
  | 7 => ("StabilitySums", "fraction", "LStabilitySums$Fraction;", true)
  | 8 => ("StabilitySums", "left", "J", false)
  | _ => ("StabilitySums", "right", "J", false)
def tt_S : Nat → FieldType := fun k => match k with
  | 0 => .object "StabilitySums$Weights"
  | 1 => .object "StabilitySums$Tanks"
  | 2 => .object "StabilitySums$Table"
  | 3 => .object "StabilitySums$Limits"
  | 4 => .object "StabilitySums$Steps"
  | 5 => .object "StabilitySums$Sums"
  | 6 => .object "StabilitySums$Cuts"
  | 7 => .object "StabilitySums$Fraction"
  | 8 => .long
  | _ => .long
theorem nm_S : ∀ a, a < 10 → ∀ b, b < 10 → a ≠ b → (TB_S a).2.1 ≠ (TB_S b).2.1 := by decide +kernel
theorem tk_S : ∀ k, k < 10 → parseFieldDescriptor (TB_S k).2.2.1 = some (tt_S k) := by decide +kernel
theorem ui_S : ∀ w ∈ u_ws "StabilitySums" TB_S 10, w ∈ UW := by
  have h : u_ws "StabilitySums" TB_S 10 = [(Jvm.Cond.laysFinal "StabilitySums" "StabilitySums" "weights" "LStabilitySums$Weights;"), (Jvm.Cond.laysFinal "StabilitySums" "StabilitySums" "tanks" "LStabilitySums$Tanks;"), (Jvm.Cond.laysFinal "StabilitySums" "StabilitySums" "table" "LStabilitySums$Table;"), (Jvm.Cond.laysFinal "StabilitySums" "StabilitySums" "limits" "LStabilitySums$Limits;"), (Jvm.Cond.laysFinal "StabilitySums" "StabilitySums" "steps" "LStabilitySums$Steps;"), (Jvm.Cond.laysFinal "StabilitySums" "StabilitySums" "sums" "LStabilitySums$Sums;"), (Jvm.Cond.laysFinal "StabilitySums" "StabilitySums" "cuts" "LStabilitySums$Cuts;"), (Jvm.Cond.laysFinal "StabilitySums" "StabilitySums" "fraction" "LStabilitySums$Fraction;"), (Jvm.Cond.lays "StabilitySums" "StabilitySums" "left" "J"), (Jvm.Cond.lays "StabilitySums" "StabilitySums" "right" "J")] := by decide +kernel
  rw [h]
  exact List.forall_mem_cons.mpr ⟨uw_266, List.forall_mem_cons.mpr ⟨uw_268, List.forall_mem_cons.mpr ⟨uw_270, List.forall_mem_cons.mpr ⟨uw_272, List.forall_mem_cons.mpr ⟨uw_274, List.forall_mem_cons.mpr ⟨uw_276, List.forall_mem_cons.mpr ⟨uw_278, List.forall_mem_cons.mpr ⟨uw_280, List.forall_mem_cons.mpr ⟨uw_282, List.forall_mem_cons.mpr ⟨uw_284, fun _ h => nomatch h⟩⟩⟩⟩⟩⟩⟩⟩⟩⟩
def TB_M : u_T := fun k => match k with
  | 0 => ("StabilitySumsModel", "thrown", "I", false)
  | 1 => ("StabilitySumsModel", "weights", "I", false)
  | 2 => ("StabilitySumsModel", "kg", "[J", true)
  | 3 => ("StabilitySumsModel", "wx", "[J", true)
  | 4 => ("StabilitySumsModel", "wy", "[J", true)
  | 5 => ("StabilitySumsModel", "wz", "[J", true)
  | 6 => ("StabilitySumsModel", "tanks", "I", false)
  | 7 => ("StabilitySumsModel", "most", "[J", true)
  | 8 => ("StabilitySumsModel", "surface", "[J", true)
  | 9 => ("StabilitySumsModel", "tx", "[J", true)
  | 10 => ("StabilitySumsModel", "ty", "[J", true)
  | 11 => ("StabilitySumsModel", "tz", "[J", true)
  | 12 => ("StabilitySumsModel", "full", "[J", true)
  | 13 => ("StabilitySumsModel", "nowKg", "[J", true)
  | 14 => ("StabilitySumsModel", "nowFull", "[J", true)
  | 15 => ("StabilitySumsModel", "bestFull", "[J", true)
  | 16 => ("StabilitySumsModel", "rows", "I", false)
  | 17 => ("StabilitySumsModel", "at", "[J", true)
  | 18 => ("StabilitySumsModel", "high", "[J", true)
  | 19 => ("StabilitySumsModel", "deep", "[J", true)
  | 20 => ("StabilitySumsModel", "left", "J", false)
  | 21 => ("StabilitySumsModel", "right", "J", false)
  | 22 => ("StabilitySumsModel", "limits", "I", false)
  | 23 => ("StabilitySumsModel", "of", "[I", true)
  | 24 => ("StabilitySumsModel", "cut", "[J", true)
  | 25 => ("StabilitySumsModel", "low", "[J", true)
  | 26 => ("StabilitySumsModel", "top", "[J", true)
  | 27 => ("StabilitySumsModel", "steps", "I", false)
  | 28 => ("StabilitySumsModel", "isTank", "[Z", true)
  | 29 => ("StabilitySumsModel", "which", "[I", true)
  | 30 => ("StabilitySumsModel", "much", "[J", true)
  | 31 => ("StabilitySumsModel", "up", "J", false)
  | _ => ("StabilitySumsModel", "down", "J", false)
def tt_M : Nat → FieldType := fun k => match k with
  | 0 => .int
  | 1 => .int
  | 2 => .array .long
  | 3 => .array .long
  | 4 => .array .long
  | 5 => .array .long
  | 6 => .int
  | 7 => .array .long
  | 8 => .array .long
  | 9 => .array .long
  | 10 => .array .long
  | 11 => .array .long
  | 12 => .array .long
  | 13 => .array .long
  | 14 => .array .long
  | 15 => .array .long
  | 16 => .int
  | 17 => .array .long
  | 18 => .array .long
  | 19 => .array .long
  | 20 => .long
  | 21 => .long
  | 22 => .int
  | 23 => .array .int
  | 24 => .array .long
  | 25 => .array .long
  | 26 => .array .long
  | 27 => .int
  | 28 => .array .boolean
  | 29 => .array .int
  | 30 => .array .long
  | 31 => .long
  | _ => .long
theorem nm_M : ∀ a, a < 33 → ∀ b, b < 33 → a ≠ b → (TB_M a).2.1 ≠ (TB_M b).2.1 := by decide +kernel
theorem tk_M : ∀ k, k < 33 → parseFieldDescriptor (TB_M k).2.2.1 = some (tt_M k) := by decide +kernel
theorem ui_M : ∀ w ∈ u_ws "StabilitySumsModel" TB_M 33, w ∈ UW := by
  have h : u_ws "StabilitySumsModel" TB_M 33 = [(Jvm.Cond.lays "StabilitySumsModel" "StabilitySumsModel" "thrown" "I"), (Jvm.Cond.lays "StabilitySumsModel" "StabilitySumsModel" "weights" "I"), (Jvm.Cond.laysFinal "StabilitySumsModel" "StabilitySumsModel" "kg" "[J"), (Jvm.Cond.laysFinal "StabilitySumsModel" "StabilitySumsModel" "wx" "[J"), (Jvm.Cond.laysFinal "StabilitySumsModel" "StabilitySumsModel" "wy" "[J"), (Jvm.Cond.laysFinal "StabilitySumsModel" "StabilitySumsModel" "wz" "[J"), (Jvm.Cond.lays "StabilitySumsModel" "StabilitySumsModel" "tanks" "I"), (Jvm.Cond.laysFinal "StabilitySumsModel" "StabilitySumsModel" "most" "[J"), (Jvm.Cond.laysFinal "StabilitySumsModel" "StabilitySumsModel" "surface" "[J"), (Jvm.Cond.laysFinal "StabilitySumsModel" "StabilitySumsModel" "tx" "[J"), (Jvm.Cond.laysFinal "StabilitySumsModel" "StabilitySumsModel" "ty" "[J"), (Jvm.Cond.laysFinal "StabilitySumsModel" "StabilitySumsModel" "tz" "[J"), (Jvm.Cond.laysFinal "StabilitySumsModel" "StabilitySumsModel" "full" "[J"), (Jvm.Cond.laysFinal "StabilitySumsModel" "StabilitySumsModel" "nowKg" "[J"), (Jvm.Cond.laysFinal "StabilitySumsModel" "StabilitySumsModel" "nowFull" "[J"), (Jvm.Cond.laysFinal "StabilitySumsModel" "StabilitySumsModel" "bestFull" "[J"), (Jvm.Cond.lays "StabilitySumsModel" "StabilitySumsModel" "rows" "I"), (Jvm.Cond.laysFinal "StabilitySumsModel" "StabilitySumsModel" "at" "[J"), (Jvm.Cond.laysFinal "StabilitySumsModel" "StabilitySumsModel" "high" "[J"), (Jvm.Cond.laysFinal "StabilitySumsModel" "StabilitySumsModel" "deep" "[J"), (Jvm.Cond.lays "StabilitySumsModel" "StabilitySumsModel" "left" "J"), (Jvm.Cond.lays "StabilitySumsModel" "StabilitySumsModel" "right" "J"), (Jvm.Cond.lays "StabilitySumsModel" "StabilitySumsModel" "limits" "I"), (Jvm.Cond.laysFinal "StabilitySumsModel" "StabilitySumsModel" "of" "[I"), (Jvm.Cond.laysFinal "StabilitySumsModel" "StabilitySumsModel" "cut" "[J"), (Jvm.Cond.laysFinal "StabilitySumsModel" "StabilitySumsModel" "low" "[J"), (Jvm.Cond.laysFinal "StabilitySumsModel" "StabilitySumsModel" "top" "[J"), (Jvm.Cond.lays "StabilitySumsModel" "StabilitySumsModel" "steps" "I"), (Jvm.Cond.laysFinal "StabilitySumsModel" "StabilitySumsModel" "isTank" "[Z"), (Jvm.Cond.laysFinal "StabilitySumsModel" "StabilitySumsModel" "which" "[I"), (Jvm.Cond.laysFinal "StabilitySumsModel" "StabilitySumsModel" "much" "[J"), (Jvm.Cond.lays "StabilitySumsModel" "StabilitySumsModel" "up" "J"), (Jvm.Cond.lays "StabilitySumsModel" "StabilitySumsModel" "down" "J")] := by decide +kernel
  rw [h]
  exact List.forall_mem_cons.mpr ⟨uw_729, List.forall_mem_cons.mpr ⟨uw_731, List.forall_mem_cons.mpr ⟨uw_733, List.forall_mem_cons.mpr ⟨uw_735, List.forall_mem_cons.mpr ⟨uw_737, List.forall_mem_cons.mpr ⟨uw_739, List.forall_mem_cons.mpr ⟨uw_741, List.forall_mem_cons.mpr ⟨uw_743, List.forall_mem_cons.mpr ⟨uw_745, List.forall_mem_cons.mpr ⟨uw_747, List.forall_mem_cons.mpr ⟨uw_749, List.forall_mem_cons.mpr ⟨uw_751, List.forall_mem_cons.mpr ⟨uw_753, List.forall_mem_cons.mpr ⟨uw_755, List.forall_mem_cons.mpr ⟨uw_757, List.forall_mem_cons.mpr ⟨uw_759, List.forall_mem_cons.mpr ⟨uw_761, List.forall_mem_cons.mpr ⟨uw_763, List.forall_mem_cons.mpr ⟨uw_765, List.forall_mem_cons.mpr ⟨uw_767, List.forall_mem_cons.mpr ⟨uw_769, List.forall_mem_cons.mpr ⟨uw_771, List.forall_mem_cons.mpr ⟨uw_773, List.forall_mem_cons.mpr ⟨uw_775, List.forall_mem_cons.mpr ⟨uw_777, List.forall_mem_cons.mpr ⟨uw_779, List.forall_mem_cons.mpr ⟨uw_781, List.forall_mem_cons.mpr ⟨uw_783, List.forall_mem_cons.mpr ⟨uw_785, List.forall_mem_cons.mpr ⟨uw_787, List.forall_mem_cons.mpr ⟨uw_789, List.forall_mem_cons.mpr ⟨uw_791, List.forall_mem_cons.mpr ⟨uw_793, fun _ h => nomatch h⟩⟩⟩⟩⟩⟩⟩⟩⟩⟩⟩⟩⟩⟩⟩⟩⟩⟩⟩⟩⟩⟩⟩⟩⟩⟩⟩⟩⟩⟩⟩⟩⟩
abbrev CLS : List vw_C := [("StabilitySums", TB_S, 10), ("StabilitySums$Weights", TB_W, 5), ("StabilitySums$Tanks", TB_T, 9), ("StabilitySums$Table", TB_B, 4), ("StabilitySums$Limits", TB_L, 4), ("StabilitySums$Steps", TB_E, 4), ("StabilitySums$Sums", TB_U, 5), ("StabilitySums$Cuts", TB_C, 4), ("StabilitySums$Fraction", TB_F, 2), ("StabilitySumsModel", TB_M, 33)]
end
section
section RWA
variable {p : Program} {l : Launch} {e : Env} {R : Room} {s : State} {m : MethodId} {args : Array Value} {below : List Frame} {meth : Method} {c : Code} {H : Heap} {locs : List Loc} {cells slots : Nat} {Q : State → Prop}
variable {cc : ByteArray} {pc : Nat} {ls : Array Slot} {rest : List Value} {D : va_G} {cl : List vw_C} {A : Nat → Prop} {a : Nat} {tys : List (ClassId × FieldType)} {ws : va_W} {H0 : Heap}
theorem rw_lald (hexec : p.tables.exec = Jvm.exec) (hb : c.code = cc) (hK : va_K D cl tys s) (hP : va_P D cl ws H) (q0 t0 : Nat) {cA : ClassId} {n : Nat} {f : Nat → Int64} (ha : ws[q0]? = some (a, .inl (cA, n, .inr (.inl f)))) (ht : tys[t0]? = some (cA, .long)) {j : Nat} (hj : j < n) (hn : n < 2 ^ 31) (hdg : decode cc pc = .ok (.laload, 1))
    (kk : W p l e R s m args below meth c H locs cells slots Q (F0 m (pc + 1) ls (.long (f j) :: rest))) : W p l e R s m args below meth c H locs cells slots Q (F0 m pc ls (.int (nI j) :: .ref a :: rest)) := by
  refine va_lald hexec hb hK hP q0 t0 ha ht (vp_in_nI hj hn) hdg ?_
  rw [nI_clamp (Nat.lt_trans hj hn)]
  exact kk
theorem rw_iald (hexec : p.tables.exec = Jvm.exec) (hb : c.code = cc) (hK : va_K D cl tys s) (hP : va_P D cl ws H) (q0 t0 : Nat) {cA : ClassId} {n : Nat} {f : Nat → Int32} (ha : ws[q0]? = some (a, .inl (cA, n, .inl f))) (ht : tys[t0]? = some (cA, .int)) {j : Nat} (hj : j < n) (hn : n < 2 ^ 31) (hdg : decode cc pc = .ok (.iaload, 1))
    (kk : W p l e R s m args below meth c H locs cells slots Q (F0 m (pc + 1) ls (.int (f j) :: rest))) : W p l e R s m args below meth c H locs cells slots Q (F0 m pc ls (.int (nI j) :: .ref a :: rest)) := by
  refine va_iald hexec hb hK hP q0 t0 ha ht (vp_in_nI hj hn) hdg ?_
  rw [nI_clamp (Nat.lt_trans hj hn)]
  exact kk
theorem rw_zald (hexec : p.tables.exec = Jvm.exec) (hb : c.code = cc) (hK : va_K D cl tys s) (hP : va_P D cl ws H) (q0 t0 : Nat) {cA : ClassId} {n : Nat} {f : Nat → Int32} (ha : ws[q0]? = some (a, .inl (cA, n, .inl f))) (ht : tys[t0]? = some (cA, .boolean)) {j : Nat} (hj : j < n) (hn : n < 2 ^ 31) (hdg : decode cc pc = .ok (.baload, 1))
    (kk : W p l e R s m args below meth c H locs cells slots Q (F0 m (pc + 1) ls (.int (f j) :: rest))) : W p l e R s m args below meth c H locs cells slots Q (F0 m pc ls (.int (nI j) :: .ref a :: rest)) := by
  refine va_zald hexec hb hK hP q0 t0 ha ht (vp_in_nI hj hn) hdg ?_
  rw [nI_clamp (Nat.lt_trans hj hn)]
  exact kk
theorem rw_last (hexec : p.tables.exec = Jvm.exec) (hb : c.code = cc) (hK : va_K D cl tys s) (hP : va_P D cl ws H) (hD : va_D A ws) (hS : va_S A H0 H locs) (q0 t0 : Nat) {cA : ClassId} {n : Nat} {f : Nat → Int64} (ha : ws[q0]? = some (a, .inl (cA, n, .inr (.inl f)))) (ht : tys[t0]? = some (cA, .long)) {j : Nat} {x : Int64} (hj : j < n) (hn : n < 2 ^ 31) (hdg : decode cc pc = .ok (.lastore, 1))
    (kk : ∀ (H1 : Heap) (locs1 : List Loc), va_P D cl (ws.set q0 (a, .inl (cA, n, .inr (.inl (vp_updL f j x))))) H1 → va_D A (ws.set q0 (a, .inl (cA, n, .inr (.inl (vp_updL f j x))))) → va_S A H0 H1 locs1 → W p l e R s m args below meth c H1 locs1 cells slots Q (F0 m (pc + 1) ls rest)) : W p l e R s m args below meth c H locs cells slots Q (F0 m pc ls (.long x :: .int (nI j) :: .ref a :: rest)) := by
  refine va_last hexec hb hK hP hD hS q0 t0 ha ht (vp_in_nI hj hn) hdg ?_
  rw [nI_clamp (Nat.lt_trans hj hn)]
  exact kk
theorem rw_iast (hexec : p.tables.exec = Jvm.exec) (hb : c.code = cc) (hK : va_K D cl tys s) (hP : va_P D cl ws H) (hD : va_D A ws) (hS : va_S A H0 H locs) (q0 t0 : Nat) {cA : ClassId} {n : Nat} {f : Nat → Int32} (ha : ws[q0]? = some (a, .inl (cA, n, .inl f))) (ht : tys[t0]? = some (cA, .int)) {j : Nat} {x : Int32} (hj : j < n) (hn : n < 2 ^ 31) (hdg : decode cc pc = .ok (.iastore, 1))
    (kk : ∀ (H1 : Heap) (locs1 : List Loc), va_P D cl (ws.set q0 (a, .inl (cA, n, .inl (upd f j x)))) H1 → va_D A (ws.set q0 (a, .inl (cA, n, .inl (upd f j x)))) → va_S A H0 H1 locs1 → W p l e R s m args below meth c H1 locs1 cells slots Q (F0 m (pc + 1) ls rest)) : W p l e R s m args below meth c H locs cells slots Q (F0 m pc ls (.int x :: .int (nI j) :: .ref a :: rest)) := by
  refine va_iast hexec hb hK hP hD hS q0 t0 ha ht (vp_in_nI hj hn) hdg ?_
  rw [nI_clamp (Nat.lt_trans hj hn)]
  exact kk
theorem rw_zast (hexec : p.tables.exec = Jvm.exec) (hb : c.code = cc) (hK : va_K D cl tys s) (hP : va_P D cl ws H) (hD : va_D A ws) (hS : va_S A H0 H locs) (q0 t0 : Nat) {cA : ClassId} {n : Nat} {f : Nat → Int32} (ha : ws[q0]? = some (a, .inl (cA, n, .inl f))) (ht : tys[t0]? = some (cA, .boolean)) {j : Nat} {x : Int32} (hj : j < n) (hn : n < 2 ^ 31) (hdg : decode cc pc = .ok (.bastore, 1))
    (kk : ∀ (H1 : Heap) (locs1 : List Loc), va_P D cl (ws.set q0 (a, .inl (cA, n, .inl (upd f j (vp_nar .boolean x))))) H1 → va_D A (ws.set q0 (a, .inl (cA, n, .inl (upd f j (vp_nar .boolean x))))) → va_S A H0 H1 locs1 → W p l e R s m args below meth c H1 locs1 cells slots Q (F0 m (pc + 1) ls rest)) : W p l e R s m args below meth c H locs cells slots Q (F0 m pc ls (.int x :: .int (nI j) :: .ref a :: rest)) := by
  refine va_zast hexec hb hK hP hD hS q0 t0 ha ht (vp_in_nI hj hn) hdg ?_
  rw [nI_clamp (Nat.lt_trans hj hn)]
  exact kk
theorem rw_lt (hexec : p.tables.exec = Jvm.exec) (hb : c.code = cc) {x y : Int64} {off : Int} {tgt : Nat} (hd1 : decode cc pc = .ok (.lcmp, 1)) (hd2 : decode cc (pc + 1) = .ok (.ifCond .lt off, 3)) (ht : ((pc + 1 : Nat) : Int) + off = (tgt : Int))
    (kt : x < y → W p l e R s m args below meth c H locs cells slots Q (F0 m tgt ls rest)) (kf : ¬ x < y → W p l e R s m args below meth c H locs cells slots Q (F0 m (pc + 1 + 3) ls rest)) : W p l e R s m args below meth c H locs cells slots Q (F0 m pc ls (.long y :: .long x :: rest)) :=
  W.lcmp hexec hb hd1 (lv_if_lt hexec hb hd2 ht (fun h => kt ((lg_cmp_lt x y).mp h)) (fun h => kf (fun z => h ((lg_cmp_lt x y).mpr z))))
theorem rw_ge (hexec : p.tables.exec = Jvm.exec) (hb : c.code = cc) {x y : Int64} {off : Int} {tgt : Nat} (hd1 : decode cc pc = .ok (.lcmp, 1)) (hd2 : decode cc (pc + 1) = .ok (.ifCond .ge off, 3)) (ht : ((pc + 1 : Nat) : Int) + off = (tgt : Int))
    (kt : y ≤ x → W p l e R s m args below meth c H locs cells slots Q (F0 m tgt ls rest)) (kf : ¬ y ≤ x → W p l e R s m args below meth c H locs cells slots Q (F0 m (pc + 1 + 3) ls rest)) : W p l e R s m args below meth c H locs cells slots Q (F0 m pc ls (.long y :: .long x :: rest)) :=
  W.lcmp hexec hb hd1 (lv_if_ge hexec hb hd2 ht (fun h => kt ((lg_cmp_ge x y).mp h)) (fun h => kf (fun z => h ((lg_cmp_ge x y).mpr z))))
theorem rw_gt (hexec : p.tables.exec = Jvm.exec) (hb : c.code = cc) {x y : Int64} {off : Int} {tgt : Nat} (hd1 : decode cc pc = .ok (.lcmp, 1)) (hd2 : decode cc (pc + 1) = .ok (.ifCond .gt off, 3)) (ht : ((pc + 1 : Nat) : Int) + off = (tgt : Int))
    (kt : y < x → W p l e R s m args below meth c H locs cells slots Q (F0 m tgt ls rest)) (kf : ¬ y < x → W p l e R s m args below meth c H locs cells slots Q (F0 m (pc + 1 + 3) ls rest)) : W p l e R s m args below meth c H locs cells slots Q (F0 m pc ls (.long y :: .long x :: rest)) :=
  W.lcmp hexec hb hd1 (lv_if_gt hexec hb hd2 ht (fun h => kt ((lg_cmp_gt x y).mp h)) (fun h => kf (fun z => h ((lg_cmp_gt x y).mpr z))))
theorem rw_le (hexec : p.tables.exec = Jvm.exec) (hb : c.code = cc) {x y : Int64} {off : Int} {tgt : Nat} (hd1 : decode cc pc = .ok (.lcmp, 1)) (hd2 : decode cc (pc + 1) = .ok (.ifCond .le off, 3)) (ht : ((pc + 1 : Nat) : Int) + off = (tgt : Int))
    (kt : x ≤ y → W p l e R s m args below meth c H locs cells slots Q (F0 m tgt ls rest)) (kf : ¬ x ≤ y → W p l e R s m args below meth c H locs cells slots Q (F0 m (pc + 1 + 3) ls rest)) : W p l e R s m args below meth c H locs cells slots Q (F0 m pc ls (.long y :: .long x :: rest)) :=
  W.lcmp hexec hb hd1 (lv_if_le hexec hb hd2 ht (fun h => kt ((lg_cmp_le x y).mp h)) (fun h => kf (fun z => h ((lg_cmp_le x y).mpr z))))
theorem rw_eq (hexec : p.tables.exec = Jvm.exec) (hb : c.code = cc) {x y : Int64} {off : Int} {tgt : Nat} (hd1 : decode cc pc = .ok (.lcmp, 1)) (hd2 : decode cc (pc + 1) = .ok (.ifCond .eq off, 3)) (ht : ((pc + 1 : Nat) : Int) + off = (tgt : Int))
    (kt : x = y → W p l e R s m args below meth c H locs cells slots Q (F0 m tgt ls rest)) (kf : ¬ x = y → W p l e R s m args below meth c H locs cells slots Q (F0 m (pc + 1 + 3) ls rest)) : W p l e R s m args below meth c H locs cells slots Q (F0 m pc ls (.long y :: .long x :: rest)) :=
  W.lcmp hexec hb hd1 (lv_if_eq hexec hb hd2 ht (fun h => kt ((lg_cmp_eq x y).mp h)) (fun h => kf (fun z => h ((lg_cmp_eq x y).mpr z))))
theorem rw_ne (hexec : p.tables.exec = Jvm.exec) (hb : c.code = cc) {x y : Int64} {off : Int} {tgt : Nat} (hd1 : decode cc pc = .ok (.lcmp, 1)) (hd2 : decode cc (pc + 1) = .ok (.ifCond .ne off, 3)) (ht : ((pc + 1 : Nat) : Int) + off = (tgt : Int))
    (kt : ¬ x = y → W p l e R s m args below meth c H locs cells slots Q (F0 m tgt ls rest)) (kf : x = y → W p l e R s m args below meth c H locs cells slots Q (F0 m (pc + 1 + 3) ls rest)) : W p l e R s m args below meth c H locs cells slots Q (F0 m pc ls (.long y :: .long x :: rest)) :=
  W.lcmp hexec hb hd1 (lv_if_ne hexec hb hd2 ht (fun h => kt (fun z => h ((lg_cmp_eq x y).mpr z))) (fun h => kf ((lg_cmp_eq x y).mp h)))
end RWA
/-- the nest's links, which no word list may carry -/
def NL : List Cond := [(Jvm.Cond.methodLinkNest "StabilitySums" (9 : Nat) ({ cls := "StabilitySums$Weights", name := "<init>", desc := "()V" } : Jvm.MethodName) "StabilitySums"), (Jvm.Cond.methodLinkNest "StabilitySums" (18 : Nat) ({ cls := "StabilitySums$Tanks", name := "<init>", desc := "()V" } : Jvm.MethodName) "StabilitySums"), (Jvm.Cond.methodLinkNest "StabilitySums" (25 : Nat) ({ cls := "StabilitySums$Table", name := "<init>", desc := "()V" } : Jvm.MethodName) "StabilitySums"), (Jvm.Cond.methodLinkNest "StabilitySums" (32 : Nat) ({ cls := "StabilitySums$Limits", name := "<init>", desc := "()V" } : Jvm.MethodName) "StabilitySums"), (Jvm.Cond.methodLinkNest "StabilitySums" (39 : Nat) ({ cls := "StabilitySums$Steps", name := "<init>", desc := "()V" } : Jvm.MethodName) "StabilitySums"), (Jvm.Cond.methodLinkNest "StabilitySums" (46 : Nat) ({ cls := "StabilitySums$Sums", name := "<init>", desc := "()V" } : Jvm.MethodName) "StabilitySums"), (Jvm.Cond.methodLinkNest "StabilitySums" (53 : Nat) ({ cls := "StabilitySums$Cuts", name := "<init>", desc := "()V" } : Jvm.MethodName) "StabilitySums"), (Jvm.Cond.methodLinkNest "StabilitySums" (60 : Nat) ({ cls := "StabilitySums$Fraction", name := "<init>", desc := "()V" } : Jvm.MethodName) "StabilitySums"), (Jvm.Cond.methodLinkNest "StabilitySums$Fraction" (16 : Nat) ({ cls := "StabilitySums", name := "divideDown", desc := "(JJ)J" } : Jvm.MethodName) "StabilitySums")]
def NK (U : State) : Prop := ∀ w ∈ NL, va_Nw w U
theorem NL_tab : ∀ w ∈ NL, w.onTables = true := by decide +kernel
theorem NK.same {u U : State} (h : u.vm = U.vm) (hN : NK u) : NK U := fun w hw => va_Nw.same (NL_tab w hw) h (hN w hw)
theorem NL_is : ∀ w ∈ NL, ∃ (a : String) (i : Nat) (x : MethodName) (h : String), w = .methodLinkNest a i x h := by
  intro w hw
  simp only [NL, List.mem_cons, List.not_mem_nil, or_false] at hw
  rcases hw with rfl | rfl | rfl | rfl | rfl | rfl | rfl | rfl | rfl <;> exact ⟨_, _, _, _, rfl⟩
theorem NK.warm {s U : State} (hW : s.WarmedH U.vm) (hN : NK s) : NK U := fun w hw => by
  obtain ⟨a, i, x, h, rfl⟩ := NL_is w hw
  exact va_Nw.warmM hW (hN _ hw)
/-- a method's start over the world w, its end over the world w1 u -/
def Pw (D : va_G) (cl : List vw_C) (tys : List (ClassId × FieldType)) (w : va_W) (sz : Nat) (U : State) : Prop :=
  U.heap.size = sz ∧ va_P D cl w U.heap ∧ va_K D cl tys U ∧ va_D (fun _ => True) w ∧ NK U
def Bw {S : Type} (D : va_G) (cl : List vw_C) (tys : List (ClassId × FieldType)) (w1 : S → va_W) (A : Nat → Prop) (u : S) (t : State) : Prop :=
  va_P D cl (w1 u) t.heap ∧ va_K D cl tys t ∧ va_D A (w1 u)
theorem Pw.blind {D : va_G} {cl : List vw_C} {tys : List (ClassId × FieldType)} {w : va_W} {sz : Nat} {av : List Value} : FrameBlind (va_Pc av (Pw D cl tys w sz)) := fun a U g mk q => by
  obtain ⟨q0, q1, qP, qK, qD, qN⟩ := q
  exact ⟨q0, q1, qP, va_K.moved (u := U) (U := U.calling g mk a) (Vm.Alike.refl U.vm) qK, qD, NK.same (u := U) rfl qN⟩
theorem uw_V {own C : String} {idx n : Nat} {y : MethodName} {b : ByteArray} {r : Option FieldType} (h1 : Cond.methodLink own idx y ∈ UW) (h2 : Cond.instanceMethod y ∈ UW) (h3 : Cond.selects C y y ∈ UW) (h4 : Cond.initialized C ∈ UW) (h5 : Cond.code y b n r ∈ UW) : GoodIn UW (wsV own idx C y (.code y b n r :: UW)) := by
  intro w hw
  have hm : w ∈ UW := by
    simp only [wsV, List.mem_append, List.mem_cons, List.not_mem_nil, or_false] at hw
    rcases hw with (rfl | rfl | rfl | rfl) | rfl | h
    · exact h1
    · exact h2
    · exact h3
    · exact h4
    · exact h5
    · exact h
  exact ⟨hm, uw_good w hm⟩
theorem uw_C {n : Nat} {y : MethodName} {b : ByteArray} {r : Option FieldType} (h5 : Cond.code y b n r ∈ UW) : GoodIn UW (.code y b n r :: UW) := by
  intro w hw
  have hm : w ∈ UW := by
    rcases List.mem_cons.mp hw with rfl | h
    · exact h5
    · exact h
  exact ⟨hm, uw_good w hm⟩
theorem uw_S {own : String} {idx n : Nat} {y : MethodName} {b : ByteArray} {r : Option FieldType} (h1 : Cond.methodLink own idx y ∈ UW) (h2 : Cond.static y ∈ UW) (h4 : Cond.initialized y.cls ∈ UW) (h5 : Cond.code y b n r ∈ UW) : GoodIn UW (va_wsS own idx y (.code y b n r :: UW)) := by
  intro w hw
  have hm : w ∈ UW := by
    simp only [va_wsS, List.mem_append, List.mem_cons, List.not_mem_nil, or_false] at hw
    rcases hw with (rfl | rfl | rfl) | rfl | h
    · exact h1
    · exact h2
    · exact h4
    · exact h5
    · exact h
  exact ⟨hm, uw_good w hm⟩
section RWB
variable {p : Program} {l : Launch} {e : Env} {R : Room} {s : State} {m : MethodId} {args : Array Value} {below : List Frame} {meth : Method} {c : Code} {H : Heap} {locs : List Loc} {cells slots : Nat} {Q : State → Prop}
variable {cc : ByteArray} {pc : Nat} {ls : Array Slot} {rest st0 : List Value} {D : va_G} {cl : List vw_C} {A : Nat → Prop} {a : Nat} {tys : List (ClassId × FieldType)} {w : va_W} {H0 : Heap}
variable {y : MethodName} {bytes : ByteArray} {maxL nL n index : Nat} {ret : Option FieldType} {wsy : List Cond} {rm : Room} {own C : String} {b : Nat} {As : List Value}
theorem cl_free (hD : va_D A w) (hS : va_S A H0 H locs) (hA : ∀ q, H0.size ≤ q → A q) : ∀ q, va_A w H.size q → A q := fun q h => h.elim (fun ⟨k, e, hk⟩ => hD.2 k _ hk) (fun h => hA q (Nat.le_trans hS.1 h))
theorem cl_Vi {S : Type} {post : Int32 → S → Prop} {w1 : S → va_W} (S0 : CallFix p m c cc nL s args UW own) (hM : ∀ sz, Met l y (.code y bytes maxL ret :: UW) rm (va_Pc (.ref b :: As) (Pw D cl tys w sz)) (va_Qi post (Bw D cl tys w1 (va_A w sz)) (va_A w sz)) 0 0 (va_A w sz)) (cw : CallW R s args own C index y bytes maxL ret (.code y bytes maxL ret :: UW) rm 0 0 n)
    (hrecv : ∃ cellB : Cell, H[b]? = some cellB ∧ cellB.vm.isStatics = false ∧ s.vm.findClass C = some cellB.cls) (hn : As.length = n) (hsize : ls.size = nL) (hst : st0 = As.reverse ++ .ref b :: rest) (hW : (rest.map fun v => v.category).sum ≤ 8) (hdg : decode cc pc = .ok (.invokevirtual index, 3)) (hf : cells ≤ R.cells ∧ slots ≤ R.slots) (hK : va_K D cl tys s) (hN : NK s) (hP : va_P D cl w H) (hD : va_D A w) (hS : va_S A H0 H locs) (hA : ∀ q, H0.size ≤ q → A q)
    (kk : ∀ (r : Int32) (u : S) (H1 : Heap) (locs1 : List Loc), post r u → va_P D cl (w1 u) H1 → va_D A (w1 u) → va_S A H0 H1 locs1 → W p l e R s m args below meth c H1 locs1 cells slots Q (F0 m (pc + 3) ls (.int r :: rest))) : W p l e R s m args below meth c H locs cells slots Q (F0 m pc ls st0) := by
  have hFc := cl_free hD hS hA
  refine va_calli (va_runV S0 (hM H.size) cw ⟨Pw.blind, hrecv, fun U hU hW => ⟨rfl, by rw [hU], by rw [hU]; exact hP, va_K.moved hW.alike hK, hD.weaken (fun _ _ _ _ => trivial), NK.warm hW hN⟩⟩ rfl hn hsize hst (lv_room hW) hdg hf) hS (fun q _ h => hFc q h) hFc (fun r u t H1 locs1 ht hvm hw hB hz hk hS1 => ?_)
  obtain ⟨hP1, hK1, hD1⟩ := hB
  rw [ht] at hP1
  exact kk r u H1 locs1 hw hP1 (hD1.weaken (fun _ _ _ h => hFc _ h)) hS1
theorem cl_Si {S : Type} {post : Int32 → S → Prop} {w1 : S → va_W} (S0 : CallFix p m c cc nL s args UW own) (hM : ∀ sz, Met l y (.code y bytes maxL ret :: UW) rm (va_Pc (As) (Pw D cl tys w sz)) (va_Qi post (Bw D cl tys w1 (va_A w sz)) (va_A w sz)) 0 0 (va_A w sz)) (cw : CallB R s args own index y bytes maxL ret (.code y bytes maxL ret :: UW) rm 0 0 n ∧ (Cond.static y).before args s = true)
    (hn : As.length = n) (hsize : ls.size = nL) (hst : st0 = As.reverse ++ rest) (hW : (rest.map fun v => v.category).sum ≤ 8) (hdg : decode cc pc = .ok (.invokestatic index, 3)) (hf : cells ≤ R.cells ∧ slots ≤ R.slots) (hK : va_K D cl tys s) (hN : NK s) (hP : va_P D cl w H) (hD : va_D A w) (hS : va_S A H0 H locs) (hA : ∀ q, H0.size ≤ q → A q)
    (kk : ∀ (r : Int32) (u : S) (H1 : Heap) (locs1 : List Loc), post r u → va_P D cl (w1 u) H1 → va_D A (w1 u) → va_S A H0 H1 locs1 → W p l e R s m args below meth c H1 locs1 cells slots Q (F0 m (pc + 3) ls (.int r :: rest))) : W p l e R s m args below meth c H locs cells slots Q (F0 m pc ls st0) := by
  have hFc := cl_free hD hS hA
  refine va_calli (va_runS S0 (hM H.size) cw ⟨Pw.blind, fun U hU hW => ⟨rfl, by rw [hU], by rw [hU]; exact hP, va_K.moved hW.alike hK, hD.weaken (fun _ _ _ _ => trivial), NK.warm hW hN⟩⟩ rfl hn hsize hst (lv_room hW) hdg hf) hS (fun q _ h => hFc q h) hFc (fun r u t H1 locs1 ht hvm hw hB hz hk hS1 => ?_)
  obtain ⟨hP1, hK1, hD1⟩ := hB
  rw [ht] at hP1
  exact kk r u H1 locs1 hw hP1 (hD1.weaken (fun _ _ _ h => hFc _ h)) hS1
theorem cl_Ti {S : Type} {post : Int32 → S → Prop} {w1 : S → va_W} {host : String} (S0 : CallFix p m c cc nL s args UW own) (hM : ∀ sz, Met l y (.code y bytes maxL ret :: UW) rm (va_Pc (As) (Pw D cl tys w sz)) (va_Qi post (Bw D cl tys w1 (va_A w sz)) (va_A w sz)) 0 0 (va_A w sz)) (cw : va_CN R s args own index y host bytes maxL ret (.code y bytes maxL ret :: UW) rm 0 0 n ∧ (Cond.static y).before args s = true ∧ True)
    (hn : As.length = n) (hsize : ls.size = nL) (hst : st0 = As.reverse ++ rest) (hW : (rest.map fun v => v.category).sum ≤ 8) (hdg : decode cc pc = .ok (.invokestatic index, 3)) (hf : cells ≤ R.cells ∧ slots ≤ R.slots) (hK : va_K D cl tys s) (hN : NK s) (hP : va_P D cl w H) (hD : va_D A w) (hS : va_S A H0 H locs) (hA : ∀ q, H0.size ≤ q → A q)
    (kk : ∀ (r : Int32) (u : S) (H1 : Heap) (locs1 : List Loc), post r u → va_P D cl (w1 u) H1 → va_D A (w1 u) → va_S A H0 H1 locs1 → W p l e R s m args below meth c H1 locs1 cells slots Q (F0 m (pc + 3) ls (.int r :: rest))) : W p l e R s m args below meth c H locs cells slots Q (F0 m pc ls st0) := by
  have hFc := cl_free hD hS hA
  refine va_calli (va_runSN S0 (hM H.size) cw ⟨Pw.blind, fun U hU hW => ⟨rfl, by rw [hU], by rw [hU]; exact hP, va_K.moved hW.alike hK, hD.weaken (fun _ _ _ _ => trivial), NK.warm hW hN⟩⟩ rfl hn hsize hst (lv_room hW) hdg hf) hS (fun q _ h => hFc q h) hFc (fun r u t H1 locs1 ht hvm hw hB hz hk hS1 => ?_)
  obtain ⟨hP1, hK1, hD1⟩ := hB
  rw [ht] at hP1
  exact kk r u H1 locs1 hw hP1 (hD1.weaken (fun _ _ _ h => hFc _ h)) hS1
theorem cl_Vl {S : Type} {post : Int64 → S → Prop} {w1 : S → va_W} (S0 : CallFix p m c cc nL s args UW own) (hM : ∀ sz, Met l y (.code y bytes maxL ret :: UW) rm (va_Pc (.ref b :: As) (Pw D cl tys w sz)) (va_Ql post (Bw D cl tys w1 (va_A w sz)) (va_A w sz)) 0 0 (va_A w sz)) (cw : CallW R s args own C index y bytes maxL ret (.code y bytes maxL ret :: UW) rm 0 0 n)
    (hrecv : ∃ cellB : Cell, H[b]? = some cellB ∧ cellB.vm.isStatics = false ∧ s.vm.findClass C = some cellB.cls) (hn : As.length = n) (hsize : ls.size = nL) (hst : st0 = As.reverse ++ .ref b :: rest) (hW : (rest.map fun v => v.category).sum ≤ 8) (hdg : decode cc pc = .ok (.invokevirtual index, 3)) (hf : cells ≤ R.cells ∧ slots ≤ R.slots) (hK : va_K D cl tys s) (hN : NK s) (hP : va_P D cl w H) (hD : va_D A w) (hS : va_S A H0 H locs) (hA : ∀ q, H0.size ≤ q → A q)
    (kk : ∀ (r : Int64) (u : S) (H1 : Heap) (locs1 : List Loc), post r u → va_P D cl (w1 u) H1 → va_D A (w1 u) → va_S A H0 H1 locs1 → W p l e R s m args below meth c H1 locs1 cells slots Q (F0 m (pc + 3) ls (.long r :: rest))) : W p l e R s m args below meth c H locs cells slots Q (F0 m pc ls st0) := by
  have hFc := cl_free hD hS hA
  refine va_calll (va_runV S0 (hM H.size) cw ⟨Pw.blind, hrecv, fun U hU hW => ⟨rfl, by rw [hU], by rw [hU]; exact hP, va_K.moved hW.alike hK, hD.weaken (fun _ _ _ _ => trivial), NK.warm hW hN⟩⟩ rfl hn hsize hst (lv_room hW) hdg hf) hS (fun q _ h => hFc q h) hFc (fun r u t H1 locs1 ht hvm hw hB hz hk hS1 => ?_)
  obtain ⟨hP1, hK1, hD1⟩ := hB
  rw [ht] at hP1
  exact kk r u H1 locs1 hw hP1 (hD1.weaken (fun _ _ _ h => hFc _ h)) hS1
theorem cl_Sl {S : Type} {post : Int64 → S → Prop} {w1 : S → va_W} (S0 : CallFix p m c cc nL s args UW own) (hM : ∀ sz, Met l y (.code y bytes maxL ret :: UW) rm (va_Pc (As) (Pw D cl tys w sz)) (va_Ql post (Bw D cl tys w1 (va_A w sz)) (va_A w sz)) 0 0 (va_A w sz)) (cw : CallB R s args own index y bytes maxL ret (.code y bytes maxL ret :: UW) rm 0 0 n ∧ (Cond.static y).before args s = true)
    (hn : As.length = n) (hsize : ls.size = nL) (hst : st0 = As.reverse ++ rest) (hW : (rest.map fun v => v.category).sum ≤ 8) (hdg : decode cc pc = .ok (.invokestatic index, 3)) (hf : cells ≤ R.cells ∧ slots ≤ R.slots) (hK : va_K D cl tys s) (hN : NK s) (hP : va_P D cl w H) (hD : va_D A w) (hS : va_S A H0 H locs) (hA : ∀ q, H0.size ≤ q → A q)
    (kk : ∀ (r : Int64) (u : S) (H1 : Heap) (locs1 : List Loc), post r u → va_P D cl (w1 u) H1 → va_D A (w1 u) → va_S A H0 H1 locs1 → W p l e R s m args below meth c H1 locs1 cells slots Q (F0 m (pc + 3) ls (.long r :: rest))) : W p l e R s m args below meth c H locs cells slots Q (F0 m pc ls st0) := by
  have hFc := cl_free hD hS hA
  refine va_calll (va_runS S0 (hM H.size) cw ⟨Pw.blind, fun U hU hW => ⟨rfl, by rw [hU], by rw [hU]; exact hP, va_K.moved hW.alike hK, hD.weaken (fun _ _ _ _ => trivial), NK.warm hW hN⟩⟩ rfl hn hsize hst (lv_room hW) hdg hf) hS (fun q _ h => hFc q h) hFc (fun r u t H1 locs1 ht hvm hw hB hz hk hS1 => ?_)
  obtain ⟨hP1, hK1, hD1⟩ := hB
  rw [ht] at hP1
  exact kk r u H1 locs1 hw hP1 (hD1.weaken (fun _ _ _ h => hFc _ h)) hS1
theorem cl_Tl {S : Type} {post : Int64 → S → Prop} {w1 : S → va_W} {host : String} (S0 : CallFix p m c cc nL s args UW own) (hM : ∀ sz, Met l y (.code y bytes maxL ret :: UW) rm (va_Pc (As) (Pw D cl tys w sz)) (va_Ql post (Bw D cl tys w1 (va_A w sz)) (va_A w sz)) 0 0 (va_A w sz)) (cw : va_CN R s args own index y host bytes maxL ret (.code y bytes maxL ret :: UW) rm 0 0 n ∧ (Cond.static y).before args s = true ∧ True)
    (hn : As.length = n) (hsize : ls.size = nL) (hst : st0 = As.reverse ++ rest) (hW : (rest.map fun v => v.category).sum ≤ 8) (hdg : decode cc pc = .ok (.invokestatic index, 3)) (hf : cells ≤ R.cells ∧ slots ≤ R.slots) (hK : va_K D cl tys s) (hN : NK s) (hP : va_P D cl w H) (hD : va_D A w) (hS : va_S A H0 H locs) (hA : ∀ q, H0.size ≤ q → A q)
    (kk : ∀ (r : Int64) (u : S) (H1 : Heap) (locs1 : List Loc), post r u → va_P D cl (w1 u) H1 → va_D A (w1 u) → va_S A H0 H1 locs1 → W p l e R s m args below meth c H1 locs1 cells slots Q (F0 m (pc + 3) ls (.long r :: rest))) : W p l e R s m args below meth c H locs cells slots Q (F0 m pc ls st0) := by
  have hFc := cl_free hD hS hA
  refine va_calll (va_runSN S0 (hM H.size) cw ⟨Pw.blind, fun U hU hW => ⟨rfl, by rw [hU], by rw [hU]; exact hP, va_K.moved hW.alike hK, hD.weaken (fun _ _ _ _ => trivial), NK.warm hW hN⟩⟩ rfl hn hsize hst (lv_room hW) hdg hf) hS (fun q _ h => hFc q h) hFc (fun r u t H1 locs1 ht hvm hw hB hz hk hS1 => ?_)
  obtain ⟨hP1, hK1, hD1⟩ := hB
  rw [ht] at hP1
  exact kk r u H1 locs1 hw hP1 (hD1.weaken (fun _ _ _ h => hFc _ h)) hS1
theorem cl_Vv {S : Type} {post : S → Prop} {w1 : S → va_W} (S0 : CallFix p m c cc nL s args UW own) (hM : ∀ sz, Met l y (.code y bytes maxL ret :: UW) rm (va_Pc (.ref b :: As) (Pw D cl tys w sz)) (va_Qv post (Bw D cl tys w1 (va_A w sz)) (va_A w sz)) 0 0 (va_A w sz)) (cw : CallW R s args own C index y bytes maxL ret (.code y bytes maxL ret :: UW) rm 0 0 n)
    (hrecv : ∃ cellB : Cell, H[b]? = some cellB ∧ cellB.vm.isStatics = false ∧ s.vm.findClass C = some cellB.cls) (hn : As.length = n) (hsize : ls.size = nL) (hst : st0 = As.reverse ++ .ref b :: rest) (hW : (rest.map fun v => v.category).sum ≤ 8) (hdg : decode cc pc = .ok (.invokevirtual index, 3)) (hf : cells ≤ R.cells ∧ slots ≤ R.slots) (hK : va_K D cl tys s) (hN : NK s) (hP : va_P D cl w H) (hD : va_D A w) (hS : va_S A H0 H locs) (hA : ∀ q, H0.size ≤ q → A q)
    (kk : ∀ (u : S) (H1 : Heap) (locs1 : List Loc), post u → va_P D cl (w1 u) H1 → va_D A (w1 u) → va_S A H0 H1 locs1 → W p l e R s m args below meth c H1 locs1 cells slots Q (F0 m (pc + 3) ls (rest))) : W p l e R s m args below meth c H locs cells slots Q (F0 m pc ls st0) := by
  have hFc := cl_free hD hS hA
  refine va_callv (va_runV S0 (hM H.size) cw ⟨Pw.blind, hrecv, fun U hU hW => ⟨rfl, by rw [hU], by rw [hU]; exact hP, va_K.moved hW.alike hK, hD.weaken (fun _ _ _ _ => trivial), NK.warm hW hN⟩⟩ rfl hn hsize hst (lv_room hW) hdg hf) hS (fun q _ h => hFc q h) hFc (fun u t H1 locs1 ht hvm hw hB hz hk hS1 => ?_)
  obtain ⟨hP1, hK1, hD1⟩ := hB
  rw [ht] at hP1
  exact kk u H1 locs1 hw hP1 (hD1.weaken (fun _ _ _ h => hFc _ h)) hS1
theorem cl_Sv {S : Type} {post : S → Prop} {w1 : S → va_W} (S0 : CallFix p m c cc nL s args UW own) (hM : ∀ sz, Met l y (.code y bytes maxL ret :: UW) rm (va_Pc (As) (Pw D cl tys w sz)) (va_Qv post (Bw D cl tys w1 (va_A w sz)) (va_A w sz)) 0 0 (va_A w sz)) (cw : CallB R s args own index y bytes maxL ret (.code y bytes maxL ret :: UW) rm 0 0 n ∧ (Cond.static y).before args s = true)
    (hn : As.length = n) (hsize : ls.size = nL) (hst : st0 = As.reverse ++ rest) (hW : (rest.map fun v => v.category).sum ≤ 8) (hdg : decode cc pc = .ok (.invokestatic index, 3)) (hf : cells ≤ R.cells ∧ slots ≤ R.slots) (hK : va_K D cl tys s) (hN : NK s) (hP : va_P D cl w H) (hD : va_D A w) (hS : va_S A H0 H locs) (hA : ∀ q, H0.size ≤ q → A q)
    (kk : ∀ (u : S) (H1 : Heap) (locs1 : List Loc), post u → va_P D cl (w1 u) H1 → va_D A (w1 u) → va_S A H0 H1 locs1 → W p l e R s m args below meth c H1 locs1 cells slots Q (F0 m (pc + 3) ls (rest))) : W p l e R s m args below meth c H locs cells slots Q (F0 m pc ls st0) := by
  have hFc := cl_free hD hS hA
  refine va_callv (va_runS S0 (hM H.size) cw ⟨Pw.blind, fun U hU hW => ⟨rfl, by rw [hU], by rw [hU]; exact hP, va_K.moved hW.alike hK, hD.weaken (fun _ _ _ _ => trivial), NK.warm hW hN⟩⟩ rfl hn hsize hst (lv_room hW) hdg hf) hS (fun q _ h => hFc q h) hFc (fun u t H1 locs1 ht hvm hw hB hz hk hS1 => ?_)
  obtain ⟨hP1, hK1, hD1⟩ := hB
  rw [ht] at hP1
  exact kk u H1 locs1 hw hP1 (hD1.weaken (fun _ _ _ h => hFc _ h)) hS1
theorem cl_Tv {S : Type} {post : S → Prop} {w1 : S → va_W} {host : String} (S0 : CallFix p m c cc nL s args UW own) (hM : ∀ sz, Met l y (.code y bytes maxL ret :: UW) rm (va_Pc (As) (Pw D cl tys w sz)) (va_Qv post (Bw D cl tys w1 (va_A w sz)) (va_A w sz)) 0 0 (va_A w sz)) (cw : va_CN R s args own index y host bytes maxL ret (.code y bytes maxL ret :: UW) rm 0 0 n ∧ (Cond.static y).before args s = true ∧ True)
    (hn : As.length = n) (hsize : ls.size = nL) (hst : st0 = As.reverse ++ rest) (hW : (rest.map fun v => v.category).sum ≤ 8) (hdg : decode cc pc = .ok (.invokestatic index, 3)) (hf : cells ≤ R.cells ∧ slots ≤ R.slots) (hK : va_K D cl tys s) (hN : NK s) (hP : va_P D cl w H) (hD : va_D A w) (hS : va_S A H0 H locs) (hA : ∀ q, H0.size ≤ q → A q)
    (kk : ∀ (u : S) (H1 : Heap) (locs1 : List Loc), post u → va_P D cl (w1 u) H1 → va_D A (w1 u) → va_S A H0 H1 locs1 → W p l e R s m args below meth c H1 locs1 cells slots Q (F0 m (pc + 3) ls (rest))) : W p l e R s m args below meth c H locs cells slots Q (F0 m pc ls st0) := by
  have hFc := cl_free hD hS hA
  refine va_callv (va_runSN S0 (hM H.size) cw ⟨Pw.blind, fun U hU hW => ⟨rfl, by rw [hU], by rw [hU]; exact hP, va_K.moved hW.alike hK, hD.weaken (fun _ _ _ _ => trivial), NK.warm hW hN⟩⟩ rfl hn hsize hst (lv_room hW) hdg hf) hS (fun q _ h => hFc q h) hFc (fun u t H1 locs1 ht hvm hw hB hz hk hS1 => ?_)
  obtain ⟨hP1, hK1, hD1⟩ := hB
  rw [ht] at hP1
  exact kk u H1 locs1 hw hP1 (hD1.weaken (fun _ _ _ h => hFc _ h)) hS1
end RWB
/-- a truth value -/
def bz (r : Int32) (P : Prop) : Prop := (r = 1 ∧ P) ∨ (r = 0 ∧ ¬ P)
theorem bz_t {r : Int32} {P : Prop} (h : bz r P) (c : ¬ r = 0) : P := h.elim (fun q => q.2) (fun q => absurd q.1 c)
theorem bz_f {r : Int32} {P : Prop} (h : bz r P) (c : r = 0) : ¬ P := h.elim (fun q => absurd (q.1.symm.trans c) (by decide)) (fun q => q.2)
end
section
abbrev St : Type := (Nat → Nat → Int64) × (Nat → Nat → Int32) × (Nat → Int64) × (Nat → Nat)
def sL (t : St) (k j : Nat) (v : Int64) : St := (va_up t.1 k (vp_updL (t.1 k) j v), t.2.1, t.2.2.1, t.2.2.2)
def sI (t : St) (k j : Nat) (v : Int32) : St := (t.1, va_up t.2.1 k (upd (t.2.1 k) j v), t.2.2.1, t.2.2.2)
def sF (t : St) (k : Nat) (v : Int64) : St := (t.1, t.2.1, va_up t.2.2.1 k v, t.2.2.2)
def sN (t : St) (k : Nat) (v : Nat) : St := (t.1, t.2.1, t.2.2.1, va_up t.2.2.2 k v)
abbrev TY (T : Nat → ClassId) : List (ClassId × FieldType) := [(T 0, .long), (T 1, .int), (T 2, .boolean)]
theorem bz_nar {v : Int32} {P : Prop} (h : bz v P) : narrow .boolean (.int v) = .int v := by
  rcases h with ⟨rfl, -⟩ | ⟨rfl, -⟩ <;> decide
abbrev N6p (a b : St) : Prop := a.2.2.2 0 = b.2.2.2 0 ∧ a.2.2.2 1 = b.2.2.2 1 ∧ a.2.2.2 2 = b.2.2.2 2 ∧ a.2.2.2 3 = b.2.2.2 3 ∧ a.2.2.2 4 = b.2.2.2 4 ∧ a.2.2.2 5 = b.2.2.2 5
theorem nsix {a b : St} (h : a.2.2.2 = b.2.2.2) : N6p a b := by rw [N6p, h]; exact ⟨rfl, rfl, rfl, rfl, rfl, rfl⟩
def Iv (t : St) : Prop := t.2.2.2 0 ≤ 40 ∧ t.2.2.2 1 ≤ 4 ∧ t.2.2.2 2 ≤ 12 ∧ t.2.2.2 3 ≤ 10 ∧ t.2.2.2 4 ≤ 20 ∧ t.2.2.2 5 ≤ 10
theorem nz0 {n : Nat} (h : n < 2 ^ 31) : nI n = 0 ↔ n = 0 := ⟨fun z => (nI_eq h (by omega)).mp (z.trans nI_0.symm), fun z => by rw [z]; exact nI_0⟩
theorem im1 (x : Int32) : x + Int32.ofInt (-1) = x - 1 := by rw [Int32.sub_eq_add_neg]; rfl
theorem ne_toInt {x k : Int32} {a : Int} (h : ¬ x = k) (hk : k.toInt = a) : x.toInt ≠ a := fun z => h (Int32.toInt_inj.mp (z.trans hk.symm))
theorem sw_out1_7 {x : Int32} (h1 : ¬ x = 1) (h2 : ¬ x = 2) (h3 : ¬ x = 3) (h4 : ¬ x = 4) (h5 : ¬ x = 5) (h6 : ¬ x = 6) (h7 : ¬ x = 7) : x.toInt < 1 ∨ 7 < x.toInt := by
  have a1 := ne_toInt h1 (a := 1) rfl; have a2 := ne_toInt h2 (a := 2) rfl; have a3 := ne_toInt h3 (a := 3) rfl; have a4 := ne_toInt h4 (a := 4) rfl; have a5 := ne_toInt h5 (a := 5) rfl; have a6 := ne_toInt h6 (a := 6) rfl; have a7 := ne_toInt h7 (a := 7) rfl
  omega
theorem sw_out0_5 {x : Int32} (h0 : ¬ x = 0) (h1 : ¬ x = 1) (h2 : ¬ x = 2) (h3 : ¬ x = 3) (h4 : ¬ x = 4) (h5 : ¬ x = 5) : x.toInt < 0 ∨ 5 < x.toInt := by
  have a0 := ne_toInt h0 (a := 0) rfl; have a1 := ne_toInt h1 (a := 1) rfl; have a2 := ne_toInt h2 (a := 2) rfl; have a3 := ne_toInt h3 (a := 3) rfl; have a4 := ne_toInt h4 (a := 4) rfl; have a5 := ne_toInt h5 (a := 5) rfl
  omega
def wS (ad : Nat → Nat) (T : Nat → ClassId) (t : St) : va_W := [(ad 0, .inr (0, [.ref (ad 1), .ref (ad 2), .ref (ad 3), .ref (ad 4), .ref (ad 5), .ref (ad 6), .ref (ad 7), .ref (ad 8), .long (t.2.2.1 0), .long (t.2.2.1 1)])), (ad 1, .inr (1, [.ref (ad 9), .ref (ad 10), .ref (ad 11), .ref (ad 12), .int (nI (t.2.2.2 0))])), (ad 2, .inr (2, [.ref (ad 13), .ref (ad 14), .ref (ad 15), .ref (ad 16), .ref (ad 17), .ref (ad 18), .ref (ad 19), .ref (ad 20), .int (nI (t.2.2.2 1))])), (ad 3, .inr (3, [.ref (ad 21), .ref (ad 22), .ref (ad 23), .int (nI (t.2.2.2 2))])), (ad 4, .inr (4, [.ref (ad 24), .ref (ad 25), .ref (ad 26), .int (nI (t.2.2.2 3))])), (ad 5, .inr (5, [.ref (ad 27), .ref (ad 28), .ref (ad 29), .int (nI (t.2.2.2 4))])), (ad 6, .inr (6, [.long (t.2.2.1 2), .long (t.2.2.1 3), .long (t.2.2.1 4), .long (t.2.2.1 5), .long (t.2.2.1 6)])), (ad 7, .inr (7, [.ref (ad 30), .ref (ad 31), .ref (ad 32), .int (nI (t.2.2.2 5))])), (ad 8, .inr (8, [.long (t.2.2.1 7), .long (t.2.2.1 8)])), (ad 9, .inl (T 0, 40, .inr (.inl (t.1 0)))), (ad 10, .inl (T 0, 40, .inr (.inl (t.1 1)))), (ad 11, .inl (T 0, 40, .inr (.inl (t.1 2)))), (ad 12, .inl (T 0, 40, .inr (.inl (t.1 3)))), (ad 13, .inl (T 0, 4, .inr (.inl (t.1 4)))), (ad 14, .inl (T 0, 4, .inr (.inl (t.1 5)))), (ad 15, .inl (T 0, 4, .inr (.inl (t.1 6)))), (ad 16, .inl (T 0, 4, .inr (.inl (t.1 7)))), (ad 17, .inl (T 0, 4, .inr (.inl (t.1 8)))), (ad 18, .inl (T 0, 4, .inr (.inl (t.1 9)))), (ad 19, .inl (T 0, 4, .inr (.inl (t.1 10)))), (ad 20, .inl (T 0, 4, .inr (.inl (t.1 11)))), (ad 21, .inl (T 0, 12, .inr (.inl (t.1 12)))), (ad 22, .inl (T 0, 12, .inr (.inl (t.1 13)))), (ad 23, .inl (T 0, 12, .inr (.inl (t.1 14)))), (ad 24, .inl (T 1, 11, .inl (t.2.1 0))), (ad 25, .inl (T 0, 11, .inr (.inl (t.1 15)))), (ad 26, .inl (T 0, 11, .inr (.inl (t.1 16)))), (ad 27, .inl (T 2, 20, .inl (t.2.1 1))), (ad 28, .inl (T 1, 20, .inl (t.2.1 2))), (ad 29, .inl (T 0, 20, .inr (.inl (t.1 17)))), (ad 30, .inl (T 0, 11, .inr (.inl (t.1 18)))), (ad 31, .inl (T 0, 11, .inr (.inl (t.1 19)))), (ad 32, .inl (T 0, 11, .inr (.inl (t.1 20))))]
abbrev x_in (n a b : Int64) : Prop := a ≤ n ∧ n ≤ b
def x_fdiv (x y : Int64) : Int64 := if (x ^^^ y) < 0 ∧ ¬ x / y * y = x then x / y - 1 else x / y
def x_dd (x y : Int64) : Int64 := if 0 < y then x_fdiv x y else 0
def x_uclr (t : St) : St := sF (sF (sF (sF (sF t 2 0) 3 0) 4 0) 5 0) 6 0
def x_uadd (k x y z : Int64) (t : St) : St := sF (sF (sF (sF t 2 (t.2.2.1 2 + k)) 3 (t.2.2.1 3 + k * x)) 4 (t.2.2.1 4 + k * y)) 5 (t.2.2.1 5 + k * z)
def x_cclr : Nat → Nat → St → St
  | 0, _, t => t
  | n + 1, i, t => x_cclr n (i + 1) (sL (sL t 19 i 0) 20 i 0)
def x_cadd (k x : Int64) : Nat → Nat → St → St
  | 0, _, t => t
  | n + 1, i, t => x_cadd k x n (i + 1) (if x < t.1 18 i then sL (sL t 19 i (t.1 19 i + k)) 20 i (t.1 20 i + k * (t.1 18 i - x)) else t)
def x_cutsAdd (k x : Int64) (t : St) : St := x_cadd k x (t.2.2.2 5 + 1) 0 t
abbrev x_pl (n : Int64) : Prop := x_in n (-10000) 10000
abbrev x_pls (x y z : Int64) : Prop := x_pl x ∧ x_pl y ∧ x_pl z
theorem x_uadd_N (k x y z : Int64) (t : St) : (x_uadd k x y z t).2.2.2 = t.2.2.2 := rfl
theorem x_cadd_N (k x : Int64) : ∀ (n i : Nat) (t : St), (x_cadd k x n i t).2.2.2 = t.2.2.2
  | 0, _, _ => rfl
  | n + 1, i, t => by rw [x_cadd, x_cadd_N k x n]; split <;> rfl
theorem x_cutsAdd_N (k x : Int64) (t : St) : (x_cutsAdd k x t).2.2.2 = t.2.2.2 := x_cadd_N k x _ _ _
theorem x_cclr_N : ∀ (n i : Nat) (t : St), (x_cclr n i t).2.2.2 = t.2.2.2
  | 0, _, _ => rfl
  | n + 1, i, t => by rw [x_cclr, x_cclr_N n]; rfl
def x_wapp (a b c d : Int64) (t : St) : St := sN (sL (sL (sL (sL t 0 (t.2.2.2 0) a) 1 (t.2.2.2 0) b) 2 (t.2.2.2 0) c) 3 (t.2.2.2 0) d) 0 (t.2.2.2 0 + 1)
def x_tapp (a b c d e : Int64) (t : St) : St := sN (sL (sL (sL (sL (sL t 4 (t.2.2.2 1) a) 5 (t.2.2.2 1) b) 6 (t.2.2.2 1) c) 7 (t.2.2.2 1) d) 8 (t.2.2.2 1) e) 1 (t.2.2.2 1 + 1)
def x_bapp (a b c : Int64) (t : St) : St := sN (sL (sL (sL t 12 (t.2.2.2 2) a) 13 (t.2.2.2 2) b) 14 (t.2.2.2 2) c) 2 (t.2.2.2 2 + 1)
def x_lapp (a : Int32) (b c : Int64) (t : St) : St := sL (sL (sI (sN t 3 (t.2.2.2 3 + 1)) 0 (t.2.2.2 3 + 1) a) 15 (t.2.2.2 3 + 1) b) 16 (t.2.2.2 3 + 1) c
def x_eapp (a b : Int32) (c : Int64) (t : St) : St := sN (sL (sI (sI t 1 (t.2.2.2 4) (vp_nar .boolean a)) 2 (t.2.2.2 4) b) 17 (t.2.2.2 4) c) 4 (t.2.2.2 4 + 1)
abbrev x_slack (t : St) (i : Nat) (k : Int64) : Prop := 0 < k ∧ k < t.1 4 i
def x_surf (t : St) (i : Nat) (k : Int64) : Int64 := if x_slack t i k then t.1 5 i else 0
def x_cs (t : St) : Nat → Nat → Nat → Nat
  | 0, _, a => a
  | n + 1, i, a => x_cs t n (i + 1) (if x_slack t i (t.1 9 i) then a + 1 else a)
def x_abs (x : Int64) : Int64 := if 0 < x then x else -x
def x_wk (t : St) : Nat → Nat → Int64 → Int64
  | 0, _, a => a
  | n + 1, i, a => x_wk t n (i + 1) (a + x_abs (t.1 10 i - t.1 9 i))
def x_kt : Nat → Nat → St → St
  | 0, _, t => t
  | n + 1, i, t => x_kt n (i + 1) (sL t 11 i (t.1 10 i))
theorem x_kt_N : ∀ (n i : Nat) (t : St), (x_kt n i t).2.2.2 = t.2.2.2
  | 0, _, _ => rfl
  | n + 1, i, t => by rw [x_kt, x_kt_N n]; rfl
def x_last (t : St) : Int64 := if t.2.2.2 2 = 0 then 0 else t.1 12 (t.2.2.2 2 - 1)
def x_put (a b : Int64) (t : St) : St := if b = 0 then sF (sF t 7 0) 8 1 else sF (sF t 7 (if 0 ≤ b then a else -a)) 8 (if 0 ≤ b then b else -b)
theorem x_put_N (a b : Int64) (t : St) : (x_put a b t).2.2.2 = t.2.2.2 := by unfold x_put; split <;> rfl
def x_abv (t : St) (d : Int64) : Nat → Nat → Nat
  | 0, i => i
  | n + 1, i => if d ≤ t.1 12 i then i else x_abv t d n (i + 1)
def x_read (k : Nat) (d : Int64) (t : St) : St :=
  if t.2.2.2 2 = 0 then x_put 0 1 t else if x_abv t d (t.2.2.2 2) 0 = 0 then x_put (t.1 k 0) 1 t else if x_abv t d (t.2.2.2 2) 0 = t.2.2.2 2 then x_put (t.1 k (t.2.2.2 2 - 1)) 1 t
  else x_put (t.1 k (x_abv t d (t.2.2.2 2) 0 - 1) * (t.1 12 (x_abv t d (t.2.2.2 2) 0) - t.1 12 (x_abv t d (t.2.2.2 2) 0 - 1)) + (t.1 k (x_abv t d (t.2.2.2 2) 0) - t.1 k (x_abv t d (t.2.2.2 2) 0 - 1)) * (d - t.1 12 (x_abv t d (t.2.2.2 2) 0 - 1))) (t.1 12 (x_abv t d (t.2.2.2 2) 0) - t.1 12 (x_abv t d (t.2.2.2 2) 0 - 1)) t
theorem x_read_N (k : Nat) (d : Int64) (t : St) : (x_read k d t).2.2.2 = t.2.2.2 := by unfold x_read; split <;> (try split) <;> (try split) <;> exact x_put_N _ _ _
abbrev x_alw (t : St) (n : Nat) (a b : Int64) : Prop := t.1 15 n ≤ a ∧ b ≤ t.1 16 n
def x_gcd : Nat → Int64 → Int64 → Int64
  | 0, a, _ => a
  | n + 1, a, b => if b = 0 then a else x_gcd n b (a - a / b * b)
def x_red (t : St) : St := if x_gcd 1000 (x_abs (t.2.2.1 7)) (t.2.2.1 8) ≤ 1 then t else sF (sF t 7 (t.2.2.1 7 / x_gcd 1000 (x_abs (t.2.2.1 7)) (t.2.2.1 8))) 8 (t.2.2.1 8 / x_gcd 1000 (x_abs (t.2.2.1 7)) (t.2.2.1 8))
def x_more (i : Nat) (k : Int64) (t : St) : St := x_cutsAdd k (t.1 1 i) (x_uadd k (t.1 1 i) (t.1 2 i) (t.1 3 i) t)
theorem x_more_N (i : Nat) (k : Int64) (t : St) : (x_more i k t).2.2.2 = t.2.2.2 := x_cutsAdd_N _ _ _
def x_fillT (i : Nat) (k : Int64) (t : St) : St := if k - t.1 10 i = 0 then t else
  sL (x_cutsAdd (k - t.1 10 i) (t.1 6 i) (x_uadd (k - t.1 10 i) (t.1 6 i) (t.1 7 i) (t.1 8 i) (sF (sF t 6 (t.2.2.1 6 - x_surf t i (t.1 10 i))) 6 (t.2.2.1 6 - x_surf t i (t.1 10 i) + x_surf t i k)))) 10 i k
theorem x_fillT_N (i : Nat) (k : Int64) (t : St) : (x_fillT i k t).2.2.2 = t.2.2.2 := by unfold x_fillT; split; rfl; exact x_cutsAdd_N _ _ _
def x_stp (i : Nat) (t : St) : St := if t.2.1 1 i = 0 then x_more (t.2.1 2 i).toNatClampNeg (t.1 17 i) t else x_fillT (t.2.1 2 i).toNatClampNeg (t.1 17 i) t
theorem x_stp_N (i : Nat) (t : St) : (x_stp i t).2.2.2 = t.2.2.2 := by unfold x_stp; split; exact x_more_N _ _ _; exact x_fillT_N _ _ _
def x_gw : Nat → Nat → St → St
  | 0, _, t => t
  | n + 1, i, t => x_gw n (i + 1) (x_more i (t.1 0 i) t)
theorem x_gw_N : ∀ (n i : Nat) (t : St), (x_gw n i t).2.2.2 = t.2.2.2
  | 0, _, _ => rfl
  | n + 1, i, t => by rw [x_gw, x_gw_N n, x_more_N]
def x_gt : Nat → Nat → St → St
  | 0, _, t => t
  | n + 1, i, t => x_gt n (i + 1) (x_fillT i (t.1 9 i) (sL t 10 i 0))
theorem x_gt_N : ∀ (n i : Nat) (t : St), (x_gt n i t).2.2.2 = t.2.2.2
  | 0, _, _ => rfl
  | n + 1, i, t => by rw [x_gt, x_gt_N n, x_fillT_N]; rfl
def x_g0 (t : St) : St := x_cclr (t.2.2.2 3 + 1) 0 (sN (x_uclr t) 5 (t.2.2.2 3))
def x_gath (t : St) : St := x_gt (t.2.2.2 1) 0 (x_gw (t.2.2.2 0) 0 (x_g0 t))
theorem x_gath_N (t : St) : (x_gath t).2.2.2 = va_up t.2.2.2 5 (t.2.2.2 3) := by rw [x_gath, x_gt_N, x_gw_N, x_g0, x_cclr_N]; rfl
theorem x_gath_6 (t : St) : (x_gath t).2.2.2 0 = t.2.2.2 0 ∧ (x_gath t).2.2.2 1 = t.2.2.2 1 ∧ (x_gath t).2.2.2 2 = t.2.2.2 2 ∧ (x_gath t).2.2.2 3 = t.2.2.2 3 ∧ (x_gath t).2.2.2 4 = t.2.2.2 4 ∧ (x_gath t).2.2.2 5 = t.2.2.2 3 := by rw [x_gath_N]; exact ⟨rfl, rfl, rfl, rfl, rfl, rfl⟩
abbrev x_noans (w : Int32) (t : St) : Prop := t.2.2.1 2 = 0 ∧ ¬ w = 0 ∧ ¬ w = 6
def x_work (w : Int32) (t : St) : St :=
  if w = 1 then x_put (t.2.2.1 3) (t.2.2.1 2) t else if w = 2 then x_put (t.2.2.1 4) (t.2.2.1 2) t else if w = 3 then x_put (t.2.2.1 5) (t.2.2.1 2) t
  else if w = 4 then x_put (t.2.2.1 5 + t.2.2.1 6) (t.2.2.1 2) t
  else if w = 5 then x_put ((x_read 13 (t.2.2.1 2) t).2.2.1 7 * t.2.2.1 2 - ((x_read 13 (t.2.2.1 2) t).2.2.1 5 + (x_read 13 (t.2.2.1 2) t).2.2.1 6) * (x_read 13 (t.2.2.1 2) t).2.2.1 8) ((x_read 13 (t.2.2.1 2) t).2.2.1 8 * t.2.2.1 2) (x_read 13 (t.2.2.1 2) t)
  else if w = 6 then x_read 14 (t.2.2.1 2) t else if w = 7 then x_put (2 * t.2.2.1 3 - t.2.2.1 2 * (t.2.2.1 0 + t.2.2.1 1)) (2 * t.2.2.1 2) t else x_put (t.2.2.1 2) 1 t
theorem x_work_N (w : Int32) (t : St) : (x_work w t).2.2.2 = t.2.2.2 := by
  unfold x_work
  repeat' split
  all_goals first | exact x_put_N _ _ _ | exact x_read_N _ _ _ | exact (x_put_N _ _ _).trans (x_read_N _ _ _)
def x_shear (t : St) (c : Nat) : Int64 := if t.1 18 c ≤ t.2.2.1 0 then t.1 19 c else if t.2.2.1 1 ≤ t.1 18 c then t.1 19 c - t.2.2.1 2 else x_dd (t.1 19 c * (t.2.2.1 1 - t.2.2.1 0) - t.2.2.1 2 * (t.1 18 c - t.2.2.1 0)) (t.2.2.1 1 - t.2.2.1 0)
def x_bend (t : St) (c : Nat) : Int64 := if t.1 18 c ≤ t.2.2.1 0 then t.1 20 c else if t.2.2.1 1 ≤ t.1 18 c then x_dd (2 * t.1 20 c - t.2.2.1 2 * (2 * t.1 18 c - t.2.2.1 0 - t.2.2.1 1)) 2 else x_dd (t.1 20 c * (2 * (t.2.2.1 1 - t.2.2.1 0)) - t.2.2.1 2 * (t.1 18 c - t.2.2.1 0) * (t.1 18 c - t.2.2.1 0)) (2 * (t.2.2.1 1 - t.2.2.1 0))
abbrev x_flr (t : St) : Int64 := x_dd (t.2.2.1 7) (t.2.2.1 8)
abbrev x_cei (t : St) : Int64 := -(x_dd (-(t.2.2.1 7)) (t.2.2.1 8))
def x_bt (n : Nat) (t : St) : St := if t.2.1 0 n = 8 then t else if t.2.1 0 n = 9 then t else if x_noans (t.2.1 0 n) t then t else x_work (t.2.1 0 n) t
theorem x_bt_N (n : Nat) (t : St) : (x_bt n t).2.2.2 = t.2.2.2 := by unfold x_bt; split; rfl; split; rfl; split; rfl; exact x_work_N _ _
def x_bp (n : Nat) (t : St) : Prop := if t.2.1 0 n = 8 then ¬ x_alw t n (x_shear t n) (x_shear t n) else if t.2.1 0 n = 9 then ¬ x_alw t n (x_bend t n) (x_bend t n) else if x_noans (t.2.1 0 n) t then True else ¬ x_alw (x_work (t.2.1 0 n) t) n (x_flr (x_work (t.2.1 0 n) t)) (x_cei (x_work (t.2.1 0 n) t))
noncomputable def x_lb : Nat → Nat → St → Nat × St
  | 0, _, t => (0, t)
  | n + 1, i, t => @ite _ (x_bp i t) (Classical.propDecidable _) (i, x_bt i t) (x_lb n (i + 1) (x_bt i t))
theorem x_lb_N : ∀ (n i : Nat) (t : St), (x_lb n i t).2.2.2.2 = t.2.2.2
  | 0, _, _ => rfl
  | n + 1, i, t => by rw [x_lb]; split; exact x_bt_N _ _; rw [x_lb_N n, x_bt_N]
end
section
set_option maxHeartbeats 4000000 in
set_option maxRecDepth 100000 in
theorem mt_S_isWithin (l : Launch) (dC : Nat → ClassId) (dI : Nat → Nat → Nat) (ad : Nat → Nat) (T : Nat → ClassId) (t : St) (a0 : Int64) (a1 : Int64) (a2 : Int64)  (sz : Nat) : Met l yn_S_isWithin (.code yn_S_isWithin cd_S_isWithin 6 (some .boolean) :: UW) ({ frames := 0, cells := 0, slots := 0, locals := 0 } : Room) (va_Pc [.long a0, .long a1, .long a2] (Pw (dC, dI) CLS (TY T) (wS ad T t) sz)) (va_Qi (fun (r : Int32) (_ : Unit) => bz r (x_in a0 a1 a2)) (Bw (dC, dI) CLS (TY T) (fun _ : Unit => (wS ad T t)) (va_A (wS ad T t) sz)) (va_A (wS ad T t) sz)) 0 0 (va_A (wS ad T t) sz) := by
  refine Met.ofW (cc := cd_S_isWithin) (maxL := 6) (ret := (some .boolean)) (by decide) rfl ?_
  intro p e s m args below meth c s₁ B hml hv
  obtain ⟨rfl, hsz, hP, hK, hD0, hN⟩ := hv
  have hx := B.exec
  have hb := B.bytes
  have hr := B.returns
  have hts : ∀ w ∈ UW, w.before _ s = true := fun w h => atoms_spec (ws := .code yn_S_isWithin cd_S_isWithin 6 (some .boolean) :: UW) B.pre w (List.mem_cons_of_mem _ h)
  have hown : s.vm.findClass "StabilitySums" = some m.cls := findClass_of_methodNamed B.named
  have hlocks := B.notSynchronized
  subst hsz
  have hD := hD0.self (sz := s.heap.size)
  generalize hAe : va_A (wS ad T t) s.heap.size = A at hD ⊢
  have hA : ∀ q : Nat, s.heap.size ≤ q → A q := fun q h => by rw [← hAe]; exact Or.inr h
  have hS : va_S A s.heap s.heap [] := va_S.rf
  have hl := lv_entry ([.long a0, .long a1, .long a2]) (n := 6) (Nat.le_of_ble_eq_true rfl)
  rw [lg_entry_eq]
  generalize (lg_sl ([.long a0, .long a1, .long a2]) ++ List.replicate (6 - (lg_sl ([.long a0, .long a1, .long a2])).length) Slot.unset).toArray = ls at hl ⊢
  have hl : lv_has ls 6 [(0, .long a0), (2, .long a1), (4, .long a2)] := hl
  generalize hQ : MQ below _ _ s 0 0 A = Q
  refine lv_lload_n hx hb de_S_isWithin_0 rfl (lv_at hl 0 rfl) ?_
  refine lv_lload_n hx hb de_S_isWithin_1 rfl (lv_at hl 1 rfl) ?_
  refine rw_lt (tgt := 17) hx hb de_S_isWithin_2 de_S_isWithin_3 (by decide) (fun c_1 => ?_) (fun c_1 => ?_)
  · skip
    refine lv_iconst (v := 0) hx hb de_S_isWithin_17 (by decide) ?_
    subst hQ
    have hpost : bz 0 (x_in a0 a1 a2) := by
      first | exact Or.inl ⟨rfl, by simp only [x_in, Int64.lt_iff_toInt_lt, Int64.le_iff_toInt_le] at *; omega⟩ | exact Or.inr ⟨rfl, by simp only [x_in, Int64.lt_iff_toInt_lt, Int64.le_iff_toInt_le] at *; omega⟩
    exact W.zret (v := 0) hx hb hr (bz_nar hpost) (fun t9 ht hW => ⟨⟨0, (), rfl, hpost, by rw [ht]; exact hP, va_K.moved hW.alike hK, hD⟩, hS.F ht⟩) hS.2.2 de_S_isWithin_18
  · skip
    refine lv_lload_n hx hb de_S_isWithin_6 rfl (lv_at hl 0 rfl) ?_
    refine lv_lload hx hb de_S_isWithin_7 (lv_at hl 2 rfl) ?_
    refine rw_gt (tgt := 17) hx hb de_S_isWithin_9 de_S_isWithin_10 (by decide) (fun c_2 => ?_) (fun c_2 => ?_)
    · skip
      refine lv_iconst (v := 0) hx hb de_S_isWithin_17 (by decide) ?_
      subst hQ
      have hpost : bz 0 (x_in a0 a1 a2) := by
        first | exact Or.inl ⟨rfl, by simp only [x_in, Int64.lt_iff_toInt_lt, Int64.le_iff_toInt_le] at *; omega⟩ | exact Or.inr ⟨rfl, by simp only [x_in, Int64.lt_iff_toInt_lt, Int64.le_iff_toInt_le] at *; omega⟩
      exact W.zret (v := 0) hx hb hr (bz_nar hpost) (fun t9 ht hW => ⟨⟨0, (), rfl, hpost, by rw [ht]; exact hP, va_K.moved hW.alike hK, hD⟩, hS.F ht⟩) hS.2.2 de_S_isWithin_18
    · skip
      refine lv_iconst (v := 1) hx hb de_S_isWithin_13 (by decide) ?_
      refine lv_goto (tgt := 18) hx hb de_S_isWithin_14 (by decide) ?_
      subst hQ
      have hpost : bz 1 (x_in a0 a1 a2) := by
        first | exact Or.inl ⟨rfl, by simp only [x_in, Int64.lt_iff_toInt_lt, Int64.le_iff_toInt_le] at *; omega⟩ | exact Or.inr ⟨rfl, by simp only [x_in, Int64.lt_iff_toInt_lt, Int64.le_iff_toInt_le] at *; omega⟩
      exact W.zret (v := 1) hx hb hr (bz_nar hpost) (fun t9 ht hW => ⟨⟨1, (), rfl, hpost, by rw [ht]; exact hP, va_K.moved hW.alike hK, hD⟩, hS.F ht⟩) hS.2.2 de_S_isWithin_18
set_option maxHeartbeats 4000000 in
set_option maxRecDepth 100000 in
theorem mt_S_isPlace (l : Launch) (dC : Nat → ClassId) (dI : Nat → Nat → Nat) (ad : Nat → Nat) (T : Nat → ClassId) (t : St) (a0 : Int64)  (sz : Nat) : Met l yn_S_isPlace (.code yn_S_isPlace cd_S_isPlace 2 (some .boolean) :: UW) ({ frames := 1, cells := 0, slots := 0, locals := 25 } : Room) (va_Pc [.long a0] (Pw (dC, dI) CLS (TY T) (wS ad T t) sz)) (va_Qi (fun (r : Int32) (_ : Unit) => bz r (x_pl a0)) (Bw (dC, dI) CLS (TY T) (fun _ : Unit => (wS ad T t)) (va_A (wS ad T t) sz)) (va_A (wS ad T t) sz)) 0 0 (va_A (wS ad T t) sz) := by
  refine Met.ofW (cc := cd_S_isPlace) (maxL := 2) (ret := (some .boolean)) (by decide) rfl ?_
  intro p e s m args below meth c s₁ B hml hv
  obtain ⟨rfl, hsz, hP, hK, hD0, hN⟩ := hv
  have hx := B.exec
  have hb := B.bytes
  have hr := B.returns
  have hts : ∀ w ∈ UW, w.before _ s = true := fun w h => atoms_spec (ws := .code yn_S_isPlace cd_S_isPlace 2 (some .boolean) :: UW) B.pre w (List.mem_cons_of_mem _ h)
  have hown : s.vm.findClass "StabilitySums" = some m.cls := findClass_of_methodNamed B.named
  have hlocks := B.notSynchronized
  subst hsz
  have hD := hD0.self (sz := s.heap.size)
  generalize hAe : va_A (wS ad T t) s.heap.size = A at hD ⊢
  have hA : ∀ q : Nat, s.heap.size ≤ q → A q := fun q h => by rw [← hAe]; exact Or.inr h
  have hS : va_S A s.heap s.heap [] := va_S.rf
  have hl := lv_entry ([.long a0]) (n := 2) (Nat.le_of_ble_eq_true rfl)
  rw [lg_entry_eq]
  generalize (lg_sl ([.long a0]) ++ List.replicate (2 - (lg_sl ([.long a0])).length) Slot.unset).toArray = ls at hl ⊢
  have hl : lv_has ls 2 [(0, .long a0)] := hl
  generalize hQ : MQ below _ _ s 0 0 A = Q
  refine lv_lload_n hx hb de_S_isPlace_0 rfl (lv_at hl 0 rfl) ?_
  refine lv_ldc2 (v := (-10000)) hx hb hown (hts _ uw_294) de_S_isPlace_1 ?_
  refine lv_ldc2 (v := 10000) hx hb hown (hts _ uw_255) de_S_isPlace_4 ?_
  refine cl_Si (As := [.long a0, .long (-10000), .long 10000]) (rest := []) ⟨hx, hb, hml, hown, hts⟩ (mt_S_isWithin l dC dI ad T t a0 (-10000) 10000) (va_cwS 3 hts (uw_S uw_295 uw_296 uw_27 uw_297) rfl rfl rfl (by decide +kernel) ⟨Nat.le_of_ble_eq_true rfl, Nat.le_of_ble_eq_true rfl⟩) rfl hl.1 rfl (by decide) de_S_isPlace_7 ⟨Nat.zero_le _, Nat.zero_le _⟩ hK hN hP hD hS hA (fun r_1 _ H locs hw_1 hP hD hS => ?_)
  have hw_1 : bz r_1 (x_in a0 (-10000) 10000) := hw_1
  subst hQ
  have hpost : bz r_1 (x_pl a0) := by
    exact hw_1
  exact W.zret (v := r_1) hx hb hr (bz_nar hpost) (fun t9 ht hW => ⟨⟨r_1, (), rfl, hpost, by rw [ht]; exact hP, va_K.moved hW.alike hK, hD⟩, hS.F ht⟩) hS.2.2 de_S_isPlace_10
set_option maxHeartbeats 4000000 in
set_option maxRecDepth 100000 in
theorem mt_S_arePlaces (l : Launch) (dC : Nat → ClassId) (dI : Nat → Nat → Nat) (ad : Nat → Nat) (T : Nat → ClassId) (t : St) (a0 : Int64) (a1 : Int64) (a2 : Int64)  (sz : Nat) : Met l yn_S_arePlaces (.code yn_S_arePlaces cd_S_arePlaces 6 (some .boolean) :: UW) ({ frames := 2, cells := 0, slots := 0, locals := 46 } : Room) (va_Pc [.long a0, .long a1, .long a2] (Pw (dC, dI) CLS (TY T) (wS ad T t) sz)) (va_Qi (fun (r : Int32) (_ : Unit) => bz r (x_pls a0 a1 a2)) (Bw (dC, dI) CLS (TY T) (fun _ : Unit => (wS ad T t)) (va_A (wS ad T t) sz)) (va_A (wS ad T t) sz)) 0 0 (va_A (wS ad T t) sz) := by
  refine Met.ofW (cc := cd_S_arePlaces) (maxL := 6) (ret := (some .boolean)) (by decide) rfl ?_
  intro p e s m args below meth c s₁ B hml hv
  obtain ⟨rfl, hsz, hP, hK, hD0, hN⟩ := hv
  have hx := B.exec
  have hb := B.bytes
  have hr := B.returns
  have hts : ∀ w ∈ UW, w.before _ s = true := fun w h => atoms_spec (ws := .code yn_S_arePlaces cd_S_arePlaces 6 (some .boolean) :: UW) B.pre w (List.mem_cons_of_mem _ h)
  have hown : s.vm.findClass "StabilitySums" = some m.cls := findClass_of_methodNamed B.named
  have hlocks := B.notSynchronized
  subst hsz
  have hD := hD0.self (sz := s.heap.size)
  generalize hAe : va_A (wS ad T t) s.heap.size = A at hD ⊢
  have hA : ∀ q : Nat, s.heap.size ≤ q → A q := fun q h => by rw [← hAe]; exact Or.inr h
  have hS : va_S A s.heap s.heap [] := va_S.rf
  have hl := lv_entry ([.long a0, .long a1, .long a2]) (n := 6) (Nat.le_of_ble_eq_true rfl)
  rw [lg_entry_eq]
  generalize (lg_sl ([.long a0, .long a1, .long a2]) ++ List.replicate (6 - (lg_sl ([.long a0, .long a1, .long a2])).length) Slot.unset).toArray = ls at hl ⊢
  have hl : lv_has ls 6 [(0, .long a0), (2, .long a1), (4, .long a2)] := hl
  generalize hQ : MQ below _ _ s 0 0 A = Q
  refine lv_lload_n hx hb de_S_arePlaces_0 rfl (lv_at hl 0 rfl) ?_
  refine cl_Si (As := [.long a0]) (rest := []) ⟨hx, hb, hml, hown, hts⟩ (mt_S_isPlace l dC dI ad T t a0) (va_cwS 1 hts (uw_S uw_291 uw_292 uw_27 uw_293) rfl rfl rfl (by decide +kernel) ⟨Nat.le_of_ble_eq_true rfl, Nat.le_of_ble_eq_true rfl⟩) rfl hl.1 rfl (by decide) de_S_arePlaces_1 ⟨Nat.zero_le _, Nat.zero_le _⟩ hK hN hP hD hS hA (fun r_1 _ H locs hw_1 hP hD hS => ?_)
  have hw_1 : bz r_1 (x_pl a0) := hw_1
  refine lv_if_eq (tgt := 26) hx hb de_S_arePlaces_4 (by decide) (fun c_2 => ?_) (fun c_2 => ?_)
  · skip
    have c_2 := bz_f hw_1 c_2
    refine lv_iconst (v := 0) hx hb de_S_arePlaces_26 (by decide) ?_
    subst hQ
    have hpost : bz 0 (x_pls a0 a1 a2) := by
      first | exact Or.inl ⟨rfl, by grind⟩ | exact Or.inr ⟨rfl, by grind⟩
    exact W.zret (v := 0) hx hb hr (bz_nar hpost) (fun t9 ht hW => ⟨⟨0, (), rfl, hpost, by rw [ht]; exact hP, va_K.moved hW.alike hK, hD⟩, hS.F ht⟩) hS.2.2 de_S_arePlaces_27
  · skip
    have c_2 := bz_t hw_1 c_2
    refine lv_lload_n hx hb de_S_arePlaces_7 rfl (lv_at hl 1 rfl) ?_
    refine cl_Si (As := [.long a1]) (rest := []) ⟨hx, hb, hml, hown, hts⟩ (mt_S_isPlace l dC dI ad T t a1) (va_cwS 1 hts (uw_S uw_291 uw_292 uw_27 uw_293) rfl rfl rfl (by decide +kernel) ⟨Nat.le_of_ble_eq_true rfl, Nat.le_of_ble_eq_true rfl⟩) rfl hl.1 rfl (by decide) de_S_arePlaces_8 ⟨Nat.zero_le _, Nat.zero_le _⟩ hK hN hP hD hS hA (fun r_3 _ H locs hw_3 hP hD hS => ?_)
    have hw_3 : bz r_3 (x_pl a1) := hw_3
    refine lv_if_eq (tgt := 26) hx hb de_S_arePlaces_11 (by decide) (fun c_4 => ?_) (fun c_4 => ?_)
    · skip
      have c_4 := bz_f hw_3 c_4
      refine lv_iconst (v := 0) hx hb de_S_arePlaces_26 (by decide) ?_
      subst hQ
      have hpost : bz 0 (x_pls a0 a1 a2) := by
        first | exact Or.inl ⟨rfl, by grind⟩ | exact Or.inr ⟨rfl, by grind⟩
      exact W.zret (v := 0) hx hb hr (bz_nar hpost) (fun t9 ht hW => ⟨⟨0, (), rfl, hpost, by rw [ht]; exact hP, va_K.moved hW.alike hK, hD⟩, hS.F ht⟩) hS.2.2 de_S_arePlaces_27
    · skip
      have c_4 := bz_t hw_3 c_4
      refine lv_lload hx hb de_S_arePlaces_14 (lv_at hl 2 rfl) ?_
      refine cl_Si (As := [.long a2]) (rest := []) ⟨hx, hb, hml, hown, hts⟩ (mt_S_isPlace l dC dI ad T t a2) (va_cwS 1 hts (uw_S uw_291 uw_292 uw_27 uw_293) rfl rfl rfl (by decide +kernel) ⟨Nat.le_of_ble_eq_true rfl, Nat.le_of_ble_eq_true rfl⟩) rfl hl.1 rfl (by decide) de_S_arePlaces_16 ⟨Nat.zero_le _, Nat.zero_le _⟩ hK hN hP hD hS hA (fun r_5 _ H locs hw_5 hP hD hS => ?_)
      have hw_5 : bz r_5 (x_pl a2) := hw_5
      refine lv_if_eq (tgt := 26) hx hb de_S_arePlaces_19 (by decide) (fun c_6 => ?_) (fun c_6 => ?_)
      · skip
        have c_6 := bz_f hw_5 c_6
        refine lv_iconst (v := 0) hx hb de_S_arePlaces_26 (by decide) ?_
        subst hQ
        have hpost : bz 0 (x_pls a0 a1 a2) := by
          first | exact Or.inl ⟨rfl, by grind⟩ | exact Or.inr ⟨rfl, by grind⟩
        exact W.zret (v := 0) hx hb hr (bz_nar hpost) (fun t9 ht hW => ⟨⟨0, (), rfl, hpost, by rw [ht]; exact hP, va_K.moved hW.alike hK, hD⟩, hS.F ht⟩) hS.2.2 de_S_arePlaces_27
      · skip
        have c_6 := bz_t hw_5 c_6
        refine lv_iconst (v := 1) hx hb de_S_arePlaces_22 (by decide) ?_
        refine lv_goto (tgt := 27) hx hb de_S_arePlaces_23 (by decide) ?_
        subst hQ
        have hpost : bz 1 (x_pls a0 a1 a2) := by
          first | exact Or.inl ⟨rfl, by grind⟩ | exact Or.inr ⟨rfl, by grind⟩
        exact W.zret (v := 1) hx hb hr (bz_nar hpost) (fun t9 ht hW => ⟨⟨1, (), rfl, hpost, by rw [ht]; exact hP, va_K.moved hW.alike hK, hD⟩, hS.F ht⟩) hS.2.2 de_S_arePlaces_27
set_option maxHeartbeats 4000000 in
set_option maxRecDepth 100000 in
theorem mt_J_floorDiv (l : Launch) (dC : Nat → ClassId) (dI : Nat → Nat → Nat) (ad : Nat → Nat) (T : Nat → ClassId) (t : St) (a0 : Int64) (a1 : Int64) (h1 : ¬ a1 = 0) (sz : Nat) : Met l yn_J_floorDiv (.code yn_J_floorDiv cd_J_floorDiv 6 (some .long) :: UW) ({ frames := 0, cells := 0, slots := 0, locals := 0 } : Room) (va_Pc [.long a0, .long a1] (Pw (dC, dI) CLS (TY T) (wS ad T t) sz)) (va_Ql (fun (r : Int64) (_ : Unit) => r = x_fdiv a0 a1) (Bw (dC, dI) CLS (TY T) (fun _ : Unit => (wS ad T t)) (va_A (wS ad T t) sz)) (va_A (wS ad T t) sz)) 0 0 (va_A (wS ad T t) sz) := by
  refine va_MetF (cc := cd_J_floorDiv) (maxL := 6) (ret := (some .long)) (by decide +kernel) rfl ?_
  intro p e s m args below meth c s₁ B hml hv
  obtain ⟨rfl, hsz, hP, hK, hD0, hN⟩ := hv
  have hx := B.exec
  have hb := B.bytes
  have hr := B.returns
  have hts : ∀ w ∈ UW, w.before _ s = true := fun w h => atoms_spec (ws := .code yn_J_floorDiv cd_J_floorDiv 6 (some .long) :: UW) B.pre w (List.mem_cons_of_mem _ h)
  have hown : s.vm.findClass "java/lang/Math" = some m.cls := findClass_of_methodNamed B.named
  have hlocks := B.notSynchronized
  subst hsz
  have hD := hD0.self (sz := s.heap.size)
  generalize hAe : va_A (wS ad T t) s.heap.size = A at hD ⊢
  have hA : ∀ q : Nat, s.heap.size ≤ q → A q := fun q h => by rw [← hAe]; exact Or.inr h
  have hS : va_S A s.heap s.heap [] := va_S.rf
  have hl := lv_entry ([.long a0, .long a1]) (n := 6) (Nat.le_of_ble_eq_true rfl)
  rw [lg_entry_eq]
  generalize (lg_sl ([.long a0, .long a1]) ++ List.replicate (6 - (lg_sl ([.long a0, .long a1])).length) Slot.unset).toArray = ls at hl ⊢
  have hl : lv_has ls 6 [(0, .long a0), (2, .long a1)] := hl
  generalize hQ : MQ below _ _ s 0 0 A = Q
  refine lv_lload_n hx hb de_J_floorDiv_0 rfl (lv_at hl 0 rfl) ?_
  refine lv_lload_n hx hb de_J_floorDiv_1 rfl (lv_at hl 1 rfl) ?_
  refine lv_ldiv hx hb de_J_floorDiv_2 h1 ?_
  refine lv_topl (fun v_1 ev_1 => ?_)
  have ev_1 : v_1 = a0 / a1 := ev_1
  refine lv_lstore (lv' := [(4, .long v_1), (0, .long a0), (2, .long a1)]) hx hb de_J_floorDiv_3 hl (by decide) rfl (fun ls hl => ?_)
  refine lv_lload_n hx hb de_J_floorDiv_5 rfl (lv_at hl 1 rfl) ?_
  refine lv_lload_n hx hb de_J_floorDiv_6 rfl (lv_at hl 2 rfl) ?_
  refine lv_lxor hx hb de_J_floorDiv_7 ?_
  refine lv_topl (fun v_2 ev_2 => ?_)
  have ev_2 : v_2 = a0 ^^^ a1 := ev_2
  refine lv_lconst (v := 0) hx hb de_J_floorDiv_8 (by decide) ?_
  refine rw_ge (tgt := 27) hx hb de_J_floorDiv_9 de_J_floorDiv_10 (by decide) (fun c_3 => ?_) (fun c_3 => ?_)
  · skip
    refine lv_lload hx hb de_J_floorDiv_27 (lv_at hl 0 rfl) ?_
    subst hQ
    have hpost : v_1 = x_fdiv a0 a1 := by
      subst_vars; simp only [x_fdiv]; grind
    exact W.lret (v := v_1) hx hb hr (fun t9 ht hW => ⟨⟨v_1, (), rfl, hpost, by rw [ht]; exact hP, va_K.moved hW.alike hK, hD⟩, hS.F ht⟩) hS.2.2 de_J_floorDiv_29
  · skip
    refine lv_lload hx hb de_J_floorDiv_13 (lv_at hl 0 rfl) ?_
    refine lv_lload_n hx hb de_J_floorDiv_15 rfl (lv_at hl 2 rfl) ?_
    refine lv_lmul hx hb de_J_floorDiv_16 ?_
    refine lv_topl (fun v_4 ev_4 => ?_)
    have ev_4 : v_4 = v_1 * a1 := ev_4
    refine lv_lload_n hx hb de_J_floorDiv_17 rfl (lv_at hl 1 rfl) ?_
    refine rw_eq (tgt := 27) hx hb de_J_floorDiv_18 de_J_floorDiv_19 (by decide) (fun c_5 => ?_) (fun c_5 => ?_)
    · skip
      refine lv_lload hx hb de_J_floorDiv_27 (lv_at hl 0 rfl) ?_
      subst hQ
      have hpost : v_1 = x_fdiv a0 a1 := by
        subst_vars; simp only [x_fdiv]; grind
      exact W.lret (v := v_1) hx hb hr (fun t9 ht hW => ⟨⟨v_1, (), rfl, hpost, by rw [ht]; exact hP, va_K.moved hW.alike hK, hD⟩, hS.F ht⟩) hS.2.2 de_J_floorDiv_29
    · skip
      refine lv_lload hx hb de_J_floorDiv_22 (lv_at hl 0 rfl) ?_
      refine lv_lconst (v := 1) hx hb de_J_floorDiv_24 (by decide) ?_
      refine lv_lsub hx hb de_J_floorDiv_25 ?_
      refine lv_topl (fun v_6 ev_6 => ?_)
      have ev_6 : v_6 = v_1 - 1 := ev_6
      subst hQ
      have hpost : v_6 = x_fdiv a0 a1 := by
        subst_vars; simp only [x_fdiv]; grind
      exact W.lret (v := v_6) hx hb hr (fun t9 ht hW => ⟨⟨v_6, (), rfl, hpost, by rw [ht]; exact hP, va_K.moved hW.alike hK, hD⟩, hS.F ht⟩) hS.2.2 de_J_floorDiv_26
set_option maxHeartbeats 4000000 in
set_option maxRecDepth 100000 in
theorem mt_S_divideDown (l : Launch) (dC : Nat → ClassId) (dI : Nat → Nat → Nat) (ad : Nat → Nat) (T : Nat → ClassId) (t : St) (a0 : Int64) (a1 : Int64)  (sz : Nat) : Met l yn_S_divideDown (.code yn_S_divideDown cd_S_divideDown 4 (some .long) :: UW) ({ frames := 1, cells := 0, slots := 0, locals := 25 } : Room) (va_Pc [.long a0, .long a1] (Pw (dC, dI) CLS (TY T) (wS ad T t) sz)) (va_Ql (fun (r : Int64) (_ : Unit) => r = x_dd a0 a1) (Bw (dC, dI) CLS (TY T) (fun _ : Unit => (wS ad T t)) (va_A (wS ad T t) sz)) (va_A (wS ad T t) sz)) 0 0 (va_A (wS ad T t) sz) := by
  refine Met.ofW (cc := cd_S_divideDown) (maxL := 4) (ret := (some .long)) (by decide) rfl ?_
  intro p e s m args below meth c s₁ B hml hv
  obtain ⟨rfl, hsz, hP, hK, hD0, hN⟩ := hv
  have hx := B.exec
  have hb := B.bytes
  have hr := B.returns
  have hts : ∀ w ∈ UW, w.before _ s = true := fun w h => atoms_spec (ws := .code yn_S_divideDown cd_S_divideDown 4 (some .long) :: UW) B.pre w (List.mem_cons_of_mem _ h)
  have hown : s.vm.findClass "StabilitySums" = some m.cls := findClass_of_methodNamed B.named
  have hlocks := B.notSynchronized
  subst hsz
  have hD := hD0.self (sz := s.heap.size)
  generalize hAe : va_A (wS ad T t) s.heap.size = A at hD ⊢
  have hA : ∀ q : Nat, s.heap.size ≤ q → A q := fun q h => by rw [← hAe]; exact Or.inr h
  have hS : va_S A s.heap s.heap [] := va_S.rf
  have hl := lv_entry ([.long a0, .long a1]) (n := 4) (Nat.le_of_ble_eq_true rfl)
  rw [lg_entry_eq]
  generalize (lg_sl ([.long a0, .long a1]) ++ List.replicate (4 - (lg_sl ([.long a0, .long a1])).length) Slot.unset).toArray = ls at hl ⊢
  have hl : lv_has ls 4 [(0, .long a0), (2, .long a1)] := hl
  generalize hQ : MQ below _ _ s 0 0 A = Q
  refine lv_lload_n hx hb de_S_divideDown_0 rfl (lv_at hl 1 rfl) ?_
  refine lv_lconst (v := 0) hx hb de_S_divideDown_1 (by decide) ?_
  refine rw_le (tgt := 14) hx hb de_S_divideDown_2 de_S_divideDown_3 (by decide) (fun c_1 => ?_) (fun c_1 => ?_)
  · skip
    refine lv_lconst (v := 0) hx hb de_S_divideDown_14 (by decide) ?_
    subst hQ
    have hpost : 0 = x_dd a0 a1 := by
      subst_vars; simp only [x_dd]; grind
    exact W.lret (v := 0) hx hb hr (fun t9 ht hW => ⟨⟨0, (), rfl, hpost, by rw [ht]; exact hP, va_K.moved hW.alike hK, hD⟩, hS.F ht⟩) hS.2.2 de_S_divideDown_15
  · skip
    refine lv_lload_n hx hb de_S_divideDown_6 rfl (lv_at hl 0 rfl) ?_
    refine lv_lload_n hx hb de_S_divideDown_7 rfl (lv_at hl 1 rfl) ?_
    refine cl_Sl (As := [.long a0, .long a1]) (rest := []) ⟨hx, hb, hml, hown, hts⟩ (mt_J_floorDiv l dC dI ad T t a0 a1 (fun z => c_1 (by rw [z]; decide))) (va_cwS 2 hts (uw_S uw_356 uw_357 uw_43 uw_358) rfl rfl rfl (by decide +kernel) ⟨Nat.le_of_ble_eq_true rfl, Nat.le_of_ble_eq_true rfl⟩) rfl hl.1 rfl (by decide) de_S_divideDown_8 ⟨Nat.zero_le _, Nat.zero_le _⟩ hK hN hP hD hS hA (fun r_2 _ H locs hw_2 hP hD hS => ?_)
    have hw_2 : r_2 = x_fdiv a0 a1 := hw_2
    refine lv_goto (tgt := 15) hx hb de_S_divideDown_11 (by decide) ?_
    subst hQ
    have hpost : r_2 = x_dd a0 a1 := by
      subst_vars; simp only [x_dd]; grind
    exact W.lret (v := r_2) hx hb hr (fun t9 ht hW => ⟨⟨r_2, (), rfl, hpost, by rw [ht]; exact hP, va_K.moved hW.alike hK, hD⟩, hS.F ht⟩) hS.2.2 de_S_divideDown_15
set_option maxHeartbeats 4000000 in
set_option maxRecDepth 100000 in
theorem mt_U_clear (l : Launch) (dC : Nat → ClassId) (dI : Nat → Nat → Nat) (ad : Nat → Nat) (T : Nat → ClassId) (t : St)   (sz : Nat) : Met l yn_U_clear (.code yn_U_clear cd_U_clear 1 none :: UW) ({ frames := 0, cells := 0, slots := 0, locals := 0 } : Room) (va_Pc [.ref (ad 6)] (Pw (dC, dI) CLS (TY T) (wS ad T t) sz)) (va_Qv (fun _ : Unit => True) (Bw (dC, dI) CLS (TY T) (fun _ : Unit => (wS ad T (x_uclr t))) (va_A (wS ad T t) sz)) (va_A (wS ad T t) sz)) 0 0 (va_A (wS ad T t) sz) := by
  refine Met.ofW (cc := cd_U_clear) (maxL := 1) (ret := none) (by decide) rfl ?_
  intro p e s m args below meth c s₁ B hml hv
  obtain ⟨rfl, hsz, hP, hK, hD0, hN⟩ := hv
  have hx := B.exec
  have hb := B.bytes
  have hr := B.returns
  have hts : ∀ w ∈ UW, w.before _ s = true := fun w h => atoms_spec (ws := .code yn_U_clear cd_U_clear 1 none :: UW) B.pre w (List.mem_cons_of_mem _ h)
  have hown : s.vm.findClass "StabilitySums$Sums" = some m.cls := findClass_of_methodNamed B.named
  have hlocks := B.notSynchronized
  subst hsz
  have hD := hD0.self (sz := s.heap.size)
  generalize hAe : va_A (wS ad T t) s.heap.size = A at hD ⊢
  have hA : ∀ q : Nat, s.heap.size ≤ q → A q := fun q h => by rw [← hAe]; exact Or.inr h
  have hS : va_S A s.heap s.heap [] := va_S.rf
  have hl := lv_entry ([.ref (ad 6)]) (n := 1) (Nat.le_of_ble_eq_true rfl)
  rw [lg_entry_eq]
  generalize (lg_sl ([.ref (ad 6)]) ++ List.replicate (1 - (lg_sl ([.ref (ad 6)])).length) Slot.unset).toArray = ls at hl ⊢
  have hl : lv_has ls 1 [(0, .ref (ad 6))] := hl
  generalize hQ : MQ below _ _ s 0 0 A = Q
  refine lv_aload_n hx hb de_U_clear_0 rfl (lv_at hl 0 rfl) ?_
  refine lv_lconst (v := 0) hx hb de_U_clear_1 (by decide) ?_
  refine va_put (D := (dC, dI)) (ci := 6) (v := .long 0) (ty := .long) (C := "StabilitySums$Sums") (T := TB_U) (N := 5) hx hb hts ui_U tt_U tk_U nm_U hown hK hP hD hS 6 rfl rfl 0 (by decide) (hts _ uw_197) (fun _ h9 => h9) rfl (by decide +kernel) rfl rfl (Nat.le_of_ble_eq_true rfl) de_U_clear_2 (fun H locs hP hD hS => ?_)
  have hP : va_P (dC, dI) CLS (wS ad T (sF t 2 0)) H := hP
  have hD : va_D A (wS ad T (sF t 2 0)) := hD
  refine lv_aload_n hx hb de_U_clear_5 rfl (lv_at hl 0 rfl) ?_
  refine lv_lconst (v := 0) hx hb de_U_clear_6 (by decide) ?_
  refine va_put (D := (dC, dI)) (ci := 6) (v := .long 0) (ty := .long) (C := "StabilitySums$Sums") (T := TB_U) (N := 5) hx hb hts ui_U tt_U tk_U nm_U hown hK hP hD hS 6 rfl rfl 1 (by decide) (hts _ uw_199) (fun _ h9 => h9) rfl (by decide +kernel) rfl rfl (Nat.le_of_ble_eq_true rfl) de_U_clear_7 (fun H locs hP hD hS => ?_)
  have hP : va_P (dC, dI) CLS (wS ad T (sF (sF t 2 0) 3 0)) H := hP
  have hD : va_D A (wS ad T (sF (sF t 2 0) 3 0)) := hD
  refine lv_aload_n hx hb de_U_clear_10 rfl (lv_at hl 0 rfl) ?_
  refine lv_lconst (v := 0) hx hb de_U_clear_11 (by decide) ?_
  refine va_put (D := (dC, dI)) (ci := 6) (v := .long 0) (ty := .long) (C := "StabilitySums$Sums") (T := TB_U) (N := 5) hx hb hts ui_U tt_U tk_U nm_U hown hK hP hD hS 6 rfl rfl 2 (by decide) (hts _ uw_201) (fun _ h9 => h9) rfl (by decide +kernel) rfl rfl (Nat.le_of_ble_eq_true rfl) de_U_clear_12 (fun H locs hP hD hS => ?_)
  have hP : va_P (dC, dI) CLS (wS ad T (sF (sF (sF t 2 0) 3 0) 4 0)) H := hP
  have hD : va_D A (wS ad T (sF (sF (sF t 2 0) 3 0) 4 0)) := hD
  refine lv_aload_n hx hb de_U_clear_15 rfl (lv_at hl 0 rfl) ?_
  refine lv_lconst (v := 0) hx hb de_U_clear_16 (by decide) ?_
  refine va_put (D := (dC, dI)) (ci := 6) (v := .long 0) (ty := .long) (C := "StabilitySums$Sums") (T := TB_U) (N := 5) hx hb hts ui_U tt_U tk_U nm_U hown hK hP hD hS 6 rfl rfl 3 (by decide) (hts _ uw_203) (fun _ h9 => h9) rfl (by decide +kernel) rfl rfl (Nat.le_of_ble_eq_true rfl) de_U_clear_17 (fun H locs hP hD hS => ?_)
  have hP : va_P (dC, dI) CLS (wS ad T (sF (sF (sF (sF t 2 0) 3 0) 4 0) 5 0)) H := hP
  have hD : va_D A (wS ad T (sF (sF (sF (sF t 2 0) 3 0) 4 0) 5 0)) := hD
  refine lv_aload_n hx hb de_U_clear_20 rfl (lv_at hl 0 rfl) ?_
  refine lv_lconst (v := 0) hx hb de_U_clear_21 (by decide) ?_
  refine va_put (D := (dC, dI)) (ci := 6) (v := .long 0) (ty := .long) (C := "StabilitySums$Sums") (T := TB_U) (N := 5) hx hb hts ui_U tt_U tk_U nm_U hown hK hP hD hS 6 rfl rfl 4 (by decide) (hts _ uw_205) (fun _ h9 => h9) rfl (by decide +kernel) rfl rfl (Nat.le_of_ble_eq_true rfl) de_U_clear_22 (fun H locs hP hD hS => ?_)
  have hP : va_P (dC, dI) CLS (wS ad T (sF (sF (sF (sF (sF t 2 0) 3 0) 4 0) 5 0) 6 0)) H := hP
  have hD : va_D A (wS ad T (sF (sF (sF (sF (sF t 2 0) 3 0) 4 0) 5 0) 6 0)) := hD
  have hfin : (sF (sF (sF (sF (sF t 2 0) 3 0) 4 0) 5 0) 6 0) = x_uclr t := by
    rfl
  rw [hfin] at hP hD
  subst hQ
  exact W.vret hx hb hr (fun t9 ht hW => ⟨⟨(), rfl, trivial, by rw [ht]; exact hP, va_K.moved hW.alike hK, hD⟩, hS.F ht⟩) hS.2.2 de_U_clear_25
set_option maxHeartbeats 4000000 in
set_option maxRecDepth 100000 in
theorem mt_U_add (l : Launch) (dC : Nat → ClassId) (dI : Nat → Nat → Nat) (ad : Nat → Nat) (T : Nat → ClassId) (t : St) (a0 : Int64) (a1 : Int64) (a2 : Int64) (a3 : Int64)  (sz : Nat) : Met l yn_U_add (.code yn_U_add cd_U_add 9 none :: UW) ({ frames := 0, cells := 0, slots := 0, locals := 0 } : Room) (va_Pc [.ref (ad 6), .long a0, .long a1, .long a2, .long a3] (Pw (dC, dI) CLS (TY T) (wS ad T t) sz)) (va_Qv (fun _ : Unit => True) (Bw (dC, dI) CLS (TY T) (fun _ : Unit => (wS ad T (x_uadd a0 a1 a2 a3 t))) (va_A (wS ad T t) sz)) (va_A (wS ad T t) sz)) 0 0 (va_A (wS ad T t) sz) := by
  refine Met.ofW (cc := cd_U_add) (maxL := 9) (ret := none) (by decide) rfl ?_
  intro p e s m args below meth c s₁ B hml hv
  obtain ⟨rfl, hsz, hP, hK, hD0, hN⟩ := hv
  have hx := B.exec
  have hb := B.bytes
  have hr := B.returns
  have hts : ∀ w ∈ UW, w.before _ s = true := fun w h => atoms_spec (ws := .code yn_U_add cd_U_add 9 none :: UW) B.pre w (List.mem_cons_of_mem _ h)
  have hown : s.vm.findClass "StabilitySums$Sums" = some m.cls := findClass_of_methodNamed B.named
  have hlocks := B.notSynchronized
  subst hsz
  have hD := hD0.self (sz := s.heap.size)
  generalize hAe : va_A (wS ad T t) s.heap.size = A at hD ⊢
  have hA : ∀ q : Nat, s.heap.size ≤ q → A q := fun q h => by rw [← hAe]; exact Or.inr h
  have hS : va_S A s.heap s.heap [] := va_S.rf
  have hl := lv_entry ([.ref (ad 6), .long a0, .long a1, .long a2, .long a3]) (n := 9) (Nat.le_of_ble_eq_true rfl)
  rw [lg_entry_eq]
  generalize (lg_sl ([.ref (ad 6), .long a0, .long a1, .long a2, .long a3]) ++ List.replicate (9 - (lg_sl ([.ref (ad 6), .long a0, .long a1, .long a2, .long a3])).length) Slot.unset).toArray = ls at hl ⊢
  have hl : lv_has ls 9 [(0, .ref (ad 6)), (1, .long a0), (3, .long a1), (5, .long a2), (7, .long a3)] := hl
  generalize hQ : MQ below _ _ s 0 0 A = Q
  refine lv_aload_n hx hb de_U_add_0 rfl (lv_at hl 0 rfl) ?_
  refine lv_dup hx hb de_U_add_1 rfl ?_
  refine va_get (D := (dC, dI)) (ci := 6) (v := .long (t.2.2.1 2)) (C := "StabilitySums$Sums") (T := TB_U) (N := 5) hx hb hts ui_U hown hK hP 6 rfl rfl 0 (by decide) (hts _ uw_197) (fun _ h9 => h9) rfl de_U_add_2 ?_
  refine lv_lload_n hx hb de_U_add_5 rfl (lv_at hl 1 rfl) ?_
  refine lv_ladd hx hb de_U_add_6 ?_
  refine lv_topl (fun v_1 ev_1 => ?_)
  have ev_1 : v_1 = (t.2.2.1 2) + a0 := ev_1
  refine va_put (D := (dC, dI)) (ci := 6) (v := .long v_1) (ty := .long) (C := "StabilitySums$Sums") (T := TB_U) (N := 5) hx hb hts ui_U tt_U tk_U nm_U hown hK hP hD hS 6 rfl rfl 0 (by decide) (hts _ uw_197) (fun _ h9 => h9) rfl (by decide +kernel) rfl rfl (Nat.le_of_ble_eq_true rfl) de_U_add_7 (fun H locs hP hD hS => ?_)
  have hP : va_P (dC, dI) CLS (wS ad T (sF t 2 v_1)) H := hP
  have hD : va_D A (wS ad T (sF t 2 v_1)) := hD
  refine lv_aload_n hx hb de_U_add_10 rfl (lv_at hl 0 rfl) ?_
  refine lv_dup hx hb de_U_add_11 rfl ?_
  refine va_get (D := (dC, dI)) (ci := 6) (v := .long (t.2.2.1 3)) (C := "StabilitySums$Sums") (T := TB_U) (N := 5) hx hb hts ui_U hown hK hP 6 rfl rfl 1 (by decide) (hts _ uw_199) (fun _ h9 => h9) rfl de_U_add_12 ?_
  refine lv_lload_n hx hb de_U_add_15 rfl (lv_at hl 1 rfl) ?_
  refine lv_lload_n hx hb de_U_add_16 rfl (lv_at hl 2 rfl) ?_
  refine lv_lmul hx hb de_U_add_17 ?_
  refine lv_topl (fun v_2 ev_2 => ?_)
  have ev_2 : v_2 = a0 * a1 := ev_2
  refine lv_ladd hx hb de_U_add_18 ?_
  refine lv_topl (fun v_3 ev_3 => ?_)
  have ev_3 : v_3 = (t.2.2.1 3) + v_2 := ev_3
  refine va_put (D := (dC, dI)) (ci := 6) (v := .long v_3) (ty := .long) (C := "StabilitySums$Sums") (T := TB_U) (N := 5) hx hb hts ui_U tt_U tk_U nm_U hown hK hP hD hS 6 rfl rfl 1 (by decide) (hts _ uw_199) (fun _ h9 => h9) rfl (by decide +kernel) rfl rfl (Nat.le_of_ble_eq_true rfl) de_U_add_19 (fun H locs hP hD hS => ?_)
  have hP : va_P (dC, dI) CLS (wS ad T (sF (sF t 2 v_1) 3 v_3)) H := hP
  have hD : va_D A (wS ad T (sF (sF t 2 v_1) 3 v_3)) := hD
  refine lv_aload_n hx hb de_U_add_22 rfl (lv_at hl 0 rfl) ?_
  refine lv_dup hx hb de_U_add_23 rfl ?_
  refine va_get (D := (dC, dI)) (ci := 6) (v := .long (t.2.2.1 4)) (C := "StabilitySums$Sums") (T := TB_U) (N := 5) hx hb hts ui_U hown hK hP 6 rfl rfl 2 (by decide) (hts _ uw_201) (fun _ h9 => h9) rfl de_U_add_24 ?_
  refine lv_lload_n hx hb de_U_add_27 rfl (lv_at hl 1 rfl) ?_
  refine lv_lload hx hb de_U_add_28 (lv_at hl 3 rfl) ?_
  refine lv_lmul hx hb de_U_add_30 ?_
  refine lv_topl (fun v_4 ev_4 => ?_)
  have ev_4 : v_4 = a0 * a2 := ev_4
  refine lv_ladd hx hb de_U_add_31 ?_
  refine lv_topl (fun v_5 ev_5 => ?_)
  have ev_5 : v_5 = (t.2.2.1 4) + v_4 := ev_5
  refine va_put (D := (dC, dI)) (ci := 6) (v := .long v_5) (ty := .long) (C := "StabilitySums$Sums") (T := TB_U) (N := 5) hx hb hts ui_U tt_U tk_U nm_U hown hK hP hD hS 6 rfl rfl 2 (by decide) (hts _ uw_201) (fun _ h9 => h9) rfl (by decide +kernel) rfl rfl (Nat.le_of_ble_eq_true rfl) de_U_add_32 (fun H locs hP hD hS => ?_)
  have hP : va_P (dC, dI) CLS (wS ad T (sF (sF (sF t 2 v_1) 3 v_3) 4 v_5)) H := hP
  have hD : va_D A (wS ad T (sF (sF (sF t 2 v_1) 3 v_3) 4 v_5)) := hD
  refine lv_aload_n hx hb de_U_add_35 rfl (lv_at hl 0 rfl) ?_
  refine lv_dup hx hb de_U_add_36 rfl ?_
  refine va_get (D := (dC, dI)) (ci := 6) (v := .long (t.2.2.1 5)) (C := "StabilitySums$Sums") (T := TB_U) (N := 5) hx hb hts ui_U hown hK hP 6 rfl rfl 3 (by decide) (hts _ uw_203) (fun _ h9 => h9) rfl de_U_add_37 ?_
  refine lv_lload_n hx hb de_U_add_40 rfl (lv_at hl 1 rfl) ?_
  refine lv_lload hx hb de_U_add_41 (lv_at hl 4 rfl) ?_
  refine lv_lmul hx hb de_U_add_43 ?_
  refine lv_topl (fun v_6 ev_6 => ?_)
  have ev_6 : v_6 = a0 * a3 := ev_6
  refine lv_ladd hx hb de_U_add_44 ?_
  refine lv_topl (fun v_7 ev_7 => ?_)
  have ev_7 : v_7 = (t.2.2.1 5) + v_6 := ev_7
  refine va_put (D := (dC, dI)) (ci := 6) (v := .long v_7) (ty := .long) (C := "StabilitySums$Sums") (T := TB_U) (N := 5) hx hb hts ui_U tt_U tk_U nm_U hown hK hP hD hS 6 rfl rfl 3 (by decide) (hts _ uw_203) (fun _ h9 => h9) rfl (by decide +kernel) rfl rfl (Nat.le_of_ble_eq_true rfl) de_U_add_45 (fun H locs hP hD hS => ?_)
  have hP : va_P (dC, dI) CLS (wS ad T (sF (sF (sF (sF t 2 v_1) 3 v_3) 4 v_5) 5 v_7)) H := hP
  have hD : va_D A (wS ad T (sF (sF (sF (sF t 2 v_1) 3 v_3) 4 v_5) 5 v_7)) := hD
  have hfin : (sF (sF (sF (sF t 2 v_1) 3 v_3) 4 v_5) 5 v_7) = x_uadd a0 a1 a2 a3 t := by
    subst_vars; rfl
  rw [hfin] at hP hD
  subst hQ
  exact W.vret hx hb hr (fun t9 ht hW => ⟨⟨(), rfl, trivial, by rw [ht]; exact hP, va_K.moved hW.alike hK, hD⟩, hS.F ht⟩) hS.2.2 de_U_add_48
set_option maxHeartbeats 4000000 in
set_option maxRecDepth 100000 in
theorem mt_C_clear (l : Launch) (dC : Nat → ClassId) (dI : Nat → Nat → Nat) (ad : Nat → Nat) (T : Nat → ClassId) (t : St) (k : Nat) (hk0 : k ≤ 10) (sz : Nat) : Met l yn_C_clear (.code yn_C_clear cd_C_clear 3 none :: UW) ({ frames := 1, cells := 0, slots := 0, locals := 21 } : Room) (va_Pc [.ref (ad 7), .int (nI k)] (Pw (dC, dI) CLS (TY T) (wS ad T t) sz)) (va_Qv (fun _ : Unit => True) (Bw (dC, dI) CLS (TY T) (fun _ : Unit => (wS ad T (x_cclr (k + 1) 0 (sN t 5 k)))) (va_A (wS ad T t) sz)) (va_A (wS ad T t) sz)) 0 0 (va_A (wS ad T t) sz) := by
  refine Met.ofW (cc := cd_C_clear) (maxL := 3) (ret := none) (by decide) rfl ?_
  intro p e s m args below meth c s₁ B hml hv
  obtain ⟨rfl, hsz, hP, hK, hD0, hN⟩ := hv
  have hx := B.exec
  have hb := B.bytes
  have hr := B.returns
  have hts : ∀ w ∈ UW, w.before _ s = true := fun w h => atoms_spec (ws := .code yn_C_clear cd_C_clear 3 none :: UW) B.pre w (List.mem_cons_of_mem _ h)
  have hown : s.vm.findClass "StabilitySums$Cuts" = some m.cls := findClass_of_methodNamed B.named
  have hlocks := B.notSynchronized
  subst hsz
  have hD := hD0.self (sz := s.heap.size)
  generalize hAe : va_A (wS ad T t) s.heap.size = A at hD ⊢
  have hA : ∀ q : Nat, s.heap.size ≤ q → A q := fun q h => by rw [← hAe]; exact Or.inr h
  have hS : va_S A s.heap s.heap [] := va_S.rf
  have hl := lv_entry ([.ref (ad 7), .int (nI k)]) (n := 3) (Nat.le_of_ble_eq_true rfl)
  rw [lg_entry_eq]
  generalize (lg_sl ([.ref (ad 7), .int (nI k)]) ++ List.replicate (3 - (lg_sl ([.ref (ad 7), .int (nI k)])).length) Slot.unset).toArray = ls at hl ⊢
  have hl : lv_has ls 3 [(0, .ref (ad 7)), (1, .int (nI k))] := hl
  generalize hQ : MQ below _ _ s 0 0 A = Q
  refine lv_aload_n hx hb de_C_clear_0 rfl (lv_at hl 0 rfl) ?_
  refine lv_iload_n hx hb de_C_clear_1 rfl (lv_at hl 1 rfl) ?_
  refine lv_bipush (v := 10) hx hb de_C_clear_2 (by decide) ?_
  refine va_mmin hx hb (hml.trans hl.1.symm) hown (hts _ uw_314) (hts _ uw_315) (hts _ uw_43) (hts _ uw_316) (Nat.le_of_ble_eq_true rfl) (Nat.le_of_ble_eq_true rfl) (Nat.zero_le _) (Nat.zero_le _) de_C_clear_4 ?_
  refine lv_topi (fun v_1 ev_1 => ?_)
  have ev_1 : v_1 = (if 10 < (nI k) then 10 else (nI k)) := ev_1
  have hnat_7 : v_1 = nI k := by rw [ev_1, if_neg]; exact fun z => absurd ((nI_ltI (a := 10) (b := k) (by omega) (by omega)).mp z) (by omega)
  rw [hnat_7]
  refine va_put (D := (dC, dI)) (ci := 7) (v := .int (nI k)) (ty := .int) (C := "StabilitySums$Cuts") (T := TB_C) (N := 4) hx hb hts ui_C tt_C tk_C nm_C hown hK hP hD hS 7 rfl rfl 3 (by decide) (hts _ uw_230) (fun _ h9 => h9) rfl (by decide +kernel) rfl rfl (Nat.le_of_ble_eq_true rfl) de_C_clear_7 (fun H locs hP hD hS => ?_)
  have hP : va_P (dC, dI) CLS (wS ad T (sN t 5 k)) H := hP
  have hD : va_D A (wS ad T (sN t 5 k)) := hD
  refine lv_iconst (v := 0) hx hb de_C_clear_10 (by decide) ?_
  refine lv_istore_n (lv' := [(2, .int 0), (0, .ref (ad 7)), (1, .int (nI k))]) hx hb de_C_clear_11 rfl hl (by decide) rfl (fun ls hl => ?_)
  have loop_12 : ∀ (n : Nat) (i : Nat) (t1 : St), (i + n = k + 1) → (t1.2.2.2 5 = k) → (x_cclr n i t1 = x_cclr (k + 1) 0 (sN t 5 k)) → ∀ (H : Heap) (locs : List Loc) (ls : Array Slot), va_P (dC, dI) CLS (wS ad T t1) H → va_D A (wS ad T t1) → va_S A s.heap H locs → lv_has ls 3 [(0, .ref (ad 7)), (2, .int (nI i))] → W p l e (headSpec (.code yn_C_clear cd_C_clear 3 none :: UW) ({ frames := 1, cells := 0, slots := 0, locals := 21 } : Room)).room s m ([.ref (ad 7), .int (nI k)] : List Value).toArray below meth c H locs 0 0 Q (F0 m 12 ls []) := by
    intro n
    induction n with
    | zero =>
      intro i t1 hi hk hq H locs ls hP hD hS hl
      refine lv_iload_n hx hb de_C_clear_12 rfl (lv_at hl 1 rfl) ?_
      refine lv_aload_n hx hb de_C_clear_13 rfl (lv_at hl 0 rfl) ?_
      refine va_get (D := (dC, dI)) (ci := 7) (v := .int (nI (t1.2.2.2 5))) (C := "StabilitySums$Cuts") (T := TB_C) (N := 4) hx hb hts ui_C hown hK hP 7 rfl rfl 3 (by decide) (hts _ uw_230) (fun _ h9 => h9) rfl de_C_clear_14 ?_
      refine lv_icmp_gt (tgt := 40) hx hb de_C_clear_17 (by decide) (fun c_2 => ?_) (fun c_2 => ?_)
      · skip
        have c_2 : (t1.2.2.2 5) < i := (nI_ltI (a := (t1.2.2.2 5)) (b := i) (by omega) (by omega)).mp c_2
        have hfin : t1 = x_cclr (k + 1) 0 (sN t 5 k) := by
          exact hq
        rw [hfin] at hP hD
        subst hQ
        exact W.vret hx hb hr (fun t9 ht hW => ⟨⟨(), rfl, trivial, by rw [ht]; exact hP, va_K.moved hW.alike hK, hD⟩, hS.F ht⟩) hS.2.2 de_C_clear_40
      · skip
        have c_2 : ¬ ((t1.2.2.2 5) < i) := fun z => c_2 ((nI_ltI (a := (t1.2.2.2 5)) (b := i) (by omega) (by omega)).mpr z)
        exfalso; omega
    | succ n ih =>
      intro i t1 hi hk hq H locs ls hP hD hS hl
      refine lv_iload_n hx hb de_C_clear_12 rfl (lv_at hl 1 rfl) ?_
      refine lv_aload_n hx hb de_C_clear_13 rfl (lv_at hl 0 rfl) ?_
      refine va_get (D := (dC, dI)) (ci := 7) (v := .int (nI (t1.2.2.2 5))) (C := "StabilitySums$Cuts") (T := TB_C) (N := 4) hx hb hts ui_C hown hK hP 7 rfl rfl 3 (by decide) (hts _ uw_230) (fun _ h9 => h9) rfl de_C_clear_14 ?_
      refine lv_icmp_gt (tgt := 40) hx hb de_C_clear_17 (by decide) (fun c_3 => ?_) (fun c_3 => ?_)
      · skip
        have c_3 : (t1.2.2.2 5) < i := (nI_ltI (a := (t1.2.2.2 5)) (b := i) (by omega) (by omega)).mp c_3
        exfalso; omega
      · skip
        have c_3 : ¬ ((t1.2.2.2 5) < i) := fun z => c_3 ((nI_ltI (a := (t1.2.2.2 5)) (b := i) (by omega) (by omega)).mpr z)
        refine lv_aload_n hx hb de_C_clear_20 rfl (lv_at hl 0 rfl) ?_
        refine va_get (D := (dC, dI)) (ci := 7) (v := .ref (ad 31)) (C := "StabilitySums$Cuts") (T := TB_C) (N := 4) hx hb hts ui_C hown hK hP 7 rfl rfl 1 (by decide) (hts _ uw_226) (fun _ h9 => h9) rfl de_C_clear_21 ?_
        refine lv_iload_n hx hb de_C_clear_24 rfl (lv_at hl 1 rfl) ?_
        refine lv_lconst (v := 0) hx hb de_C_clear_25 (by decide) ?_
        refine rw_last (f := t1.1 19) (j := i) (x := 0) hx hb hK hP hD hS 31 0 rfl rfl (by omega) (by decide) de_C_clear_26 (fun H locs hP hD hS => ?_)
        have hP : va_P (dC, dI) CLS (wS ad T (sL t1 19 i 0)) H := hP
        have hD : va_D A (wS ad T (sL t1 19 i 0)) := hD
        refine lv_aload_n hx hb de_C_clear_27 rfl (lv_at hl 0 rfl) ?_
        refine va_get (D := (dC, dI)) (ci := 7) (v := .ref (ad 32)) (C := "StabilitySums$Cuts") (T := TB_C) (N := 4) hx hb hts ui_C hown hK hP 7 rfl rfl 2 (by decide) (hts _ uw_228) (fun _ h9 => h9) rfl de_C_clear_28 ?_
        refine lv_iload_n hx hb de_C_clear_31 rfl (lv_at hl 1 rfl) ?_
        refine lv_lconst (v := 0) hx hb de_C_clear_32 (by decide) ?_
        refine rw_last (f := t1.1 20) (j := i) (x := 0) hx hb hK hP hD hS 32 0 rfl rfl (by omega) (by decide) de_C_clear_33 (fun H locs hP hD hS => ?_)
        have hP : va_P (dC, dI) CLS (wS ad T (sL (sL t1 19 i 0) 20 i 0)) H := hP
        have hD : va_D A (wS ad T (sL (sL t1 19 i 0) 20 i 0)) := hD
        refine lv_iinc (v := (nI (i + 1))) (lv' := [(2, .int (nI (i + 1))), (0, .ref (ad 7))]) hx hb de_C_clear_34 hl (k := 1) rfl (nI_1 i) (by decide) rfl (fun ls hl => ?_)
        refine lv_goto (tgt := 12) hx hb de_C_clear_37 (by decide) ?_
        exact ih (i + 1) (sL (sL t1 19 i 0) 20 i 0) (by omega) hk hq H locs ls hP hD hS (lv_sub hl [1, 0] rfl)
  exact loop_12 (k + 1) 0 (sN t 5 k) (by omega) rfl rfl _ _ ls hP hD hS (lv_sub hl [1, 0] rfl)
set_option maxHeartbeats 4000000 in
set_option maxRecDepth 100000 in
theorem mt_C_add (l : Launch) (dC : Nat → ClassId) (dI : Nat → Nat → Nat) (ad : Nat → Nat) (T : Nat → ClassId) (t : St) (a0 : Int64) (a1 : Int64) (hk0 : t.2.2.2 5 ≤ 10) (sz : Nat) : Met l yn_C_add (.code yn_C_add cd_C_add 6 none :: UW) ({ frames := 0, cells := 0, slots := 0, locals := 0 } : Room) (va_Pc [.ref (ad 7), .long a0, .long a1] (Pw (dC, dI) CLS (TY T) (wS ad T t) sz)) (va_Qv (fun _ : Unit => True) (Bw (dC, dI) CLS (TY T) (fun _ : Unit => (wS ad T (x_cutsAdd a0 a1 t))) (va_A (wS ad T t) sz)) (va_A (wS ad T t) sz)) 0 0 (va_A (wS ad T t) sz) := by
  refine Met.ofW (cc := cd_C_add) (maxL := 6) (ret := none) (by decide) rfl ?_
  intro p e s m args below meth c s₁ B hml hv
  obtain ⟨rfl, hsz, hP, hK, hD0, hN⟩ := hv
  have hx := B.exec
  have hb := B.bytes
  have hr := B.returns
  have hts : ∀ w ∈ UW, w.before _ s = true := fun w h => atoms_spec (ws := .code yn_C_add cd_C_add 6 none :: UW) B.pre w (List.mem_cons_of_mem _ h)
  have hown : s.vm.findClass "StabilitySums$Cuts" = some m.cls := findClass_of_methodNamed B.named
  have hlocks := B.notSynchronized
  subst hsz
  have hD := hD0.self (sz := s.heap.size)
  generalize hAe : va_A (wS ad T t) s.heap.size = A at hD ⊢
  have hA : ∀ q : Nat, s.heap.size ≤ q → A q := fun q h => by rw [← hAe]; exact Or.inr h
  have hS : va_S A s.heap s.heap [] := va_S.rf
  have hl := lv_entry ([.ref (ad 7), .long a0, .long a1]) (n := 6) (Nat.le_of_ble_eq_true rfl)
  rw [lg_entry_eq]
  generalize (lg_sl ([.ref (ad 7), .long a0, .long a1]) ++ List.replicate (6 - (lg_sl ([.ref (ad 7), .long a0, .long a1])).length) Slot.unset).toArray = ls at hl ⊢
  have hl : lv_has ls 6 [(0, .ref (ad 7)), (1, .long a0), (3, .long a1)] := hl
  generalize hQ : MQ below _ _ s 0 0 A = Q
  refine lv_iconst (v := 0) hx hb de_C_add_0 (by decide) ?_
  refine lv_istore (lv' := [(5, .int 0), (0, .ref (ad 7)), (1, .long a0), (3, .long a1)]) hx hb de_C_add_1 hl (by decide) rfl (fun ls hl => ?_)
  have loop_3 : ∀ (n : Nat) (i : Nat) (t1 : St), (i + n = t.2.2.2 5 + 1) → (t1.2.2.2 5 = t.2.2.2 5) → (x_cadd a0 a1 n i t1 = x_cutsAdd a0 a1 t) → ∀ (H : Heap) (locs : List Loc) (ls : Array Slot), va_P (dC, dI) CLS (wS ad T t1) H → va_D A (wS ad T t1) → va_S A s.heap H locs → lv_has ls 6 [(0, .ref (ad 7)), (1, .long a0), (3, .long a1), (5, .int (nI i))] → W p l e (headSpec (.code yn_C_add cd_C_add 6 none :: UW) ({ frames := 0, cells := 0, slots := 0, locals := 0 } : Room)).room s m ([.ref (ad 7), .long a0, .long a1] : List Value).toArray below meth c H locs 0 0 Q (F0 m 3 ls []) := by
    intro n
    induction n with
    | zero =>
      intro i t1 hi hk hq H locs ls hP hD hS hl
      refine lv_iload hx hb de_C_add_3 (lv_at hl 3 rfl) ?_
      refine lv_aload_n hx hb de_C_add_5 rfl (lv_at hl 0 rfl) ?_
      refine va_get (D := (dC, dI)) (ci := 7) (v := .int (nI (t1.2.2.2 5))) (C := "StabilitySums$Cuts") (T := TB_C) (N := 4) hx hb hts ui_C hown hK hP 7 rfl rfl 3 (by decide) (hts _ uw_230) (fun _ h9 => h9) rfl de_C_add_6 ?_
      refine lv_icmp_gt (tgt := 62) hx hb de_C_add_9 (by decide) (fun c_1 => ?_) (fun c_1 => ?_)
      · skip
        have c_1 : (t1.2.2.2 5) < i := (nI_ltI (a := (t1.2.2.2 5)) (b := i) (by omega) (by omega)).mp c_1
        have hfin : t1 = x_cutsAdd a0 a1 t := by
          exact hq
        rw [hfin] at hP hD
        subst hQ
        exact W.vret hx hb hr (fun t9 ht hW => ⟨⟨(), rfl, trivial, by rw [ht]; exact hP, va_K.moved hW.alike hK, hD⟩, hS.F ht⟩) hS.2.2 de_C_add_62
      · skip
        have c_1 : ¬ ((t1.2.2.2 5) < i) := fun z => c_1 ((nI_ltI (a := (t1.2.2.2 5)) (b := i) (by omega) (by omega)).mpr z)
        exfalso; omega
    | succ n ih =>
      intro i t1 hi hk hq H locs ls hP hD hS hl
      refine lv_iload hx hb de_C_add_3 (lv_at hl 3 rfl) ?_
      refine lv_aload_n hx hb de_C_add_5 rfl (lv_at hl 0 rfl) ?_
      refine va_get (D := (dC, dI)) (ci := 7) (v := .int (nI (t1.2.2.2 5))) (C := "StabilitySums$Cuts") (T := TB_C) (N := 4) hx hb hts ui_C hown hK hP 7 rfl rfl 3 (by decide) (hts _ uw_230) (fun _ h9 => h9) rfl de_C_add_6 ?_
      refine lv_icmp_gt (tgt := 62) hx hb de_C_add_9 (by decide) (fun c_2 => ?_) (fun c_2 => ?_)
      · skip
        have c_2 : (t1.2.2.2 5) < i := (nI_ltI (a := (t1.2.2.2 5)) (b := i) (by omega) (by omega)).mp c_2
        exfalso; omega
      · skip
        have c_2 : ¬ ((t1.2.2.2 5) < i) := fun z => c_2 ((nI_ltI (a := (t1.2.2.2 5)) (b := i) (by omega) (by omega)).mpr z)
        refine lv_lload_n hx hb de_C_add_12 rfl (lv_at hl 2 rfl) ?_
        refine lv_aload_n hx hb de_C_add_13 rfl (lv_at hl 0 rfl) ?_
        refine va_get (D := (dC, dI)) (ci := 7) (v := .ref (ad 30)) (C := "StabilitySums$Cuts") (T := TB_C) (N := 4) hx hb hts ui_C hown hK hP 7 rfl rfl 0 (by decide) (hts _ uw_224) (fun _ h9 => h9) rfl de_C_add_14 ?_
        refine lv_iload hx hb de_C_add_17 (lv_at hl 3 rfl) ?_
        refine rw_lald (f := t1.1 18) (j := i) hx hb hK hP 30 0 rfl rfl (by omega) (by decide) de_C_add_19 ?_
        refine rw_ge (tgt := 56) hx hb de_C_add_20 de_C_add_21 (by decide) (fun c_3 => ?_) (fun c_3 => ?_)
        · skip
          refine lv_iinc (v := (nI (i + 1))) (lv' := [(5, .int (nI (i + 1))), (0, .ref (ad 7)), (1, .long a0), (3, .long a1)]) hx hb de_C_add_56 hl (k := 3) rfl (nI_1 i) (by decide) rfl (fun ls hl => ?_)
          refine lv_goto (tgt := 3) hx hb de_C_add_59 (by decide) ?_
          exact ih (i + 1) t1 (by omega) hk (by rw [← hq, x_cadd]; subst_vars; first | rw [if_pos (Int64.not_le.mp c_3)] | rw [if_neg (fun z => absurd c_3 (Int64.not_le.mpr z))]) H locs ls hP hD hS (lv_sub hl [1, 2, 3, 0] rfl)
        · skip
          refine lv_aload_n hx hb de_C_add_24 rfl (lv_at hl 0 rfl) ?_
          refine va_get (D := (dC, dI)) (ci := 7) (v := .ref (ad 31)) (C := "StabilitySums$Cuts") (T := TB_C) (N := 4) hx hb hts ui_C hown hK hP 7 rfl rfl 1 (by decide) (hts _ uw_226) (fun _ h9 => h9) rfl de_C_add_25 ?_
          refine lv_iload hx hb de_C_add_28 (lv_at hl 3 rfl) ?_
          refine lv_dup2_11 hx hb de_C_add_30 rfl rfl ?_
          refine rw_lald (f := t1.1 19) (j := i) hx hb hK hP 31 0 rfl rfl (by omega) (by decide) de_C_add_31 ?_
          refine lv_lload_n hx hb de_C_add_32 rfl (lv_at hl 1 rfl) ?_
          refine lv_ladd hx hb de_C_add_33 ?_
          refine lv_topl (fun v_4 ev_4 => ?_)
          have ev_4 : v_4 = (t1.1 19 i) + a0 := ev_4
          refine rw_last (f := t1.1 19) (j := i) (x := v_4) hx hb hK hP hD hS 31 0 rfl rfl (by omega) (by decide) de_C_add_34 (fun H locs hP hD hS => ?_)
          have hP : va_P (dC, dI) CLS (wS ad T (sL t1 19 i v_4)) H := hP
          have hD : va_D A (wS ad T (sL t1 19 i v_4)) := hD
          refine lv_aload_n hx hb de_C_add_35 rfl (lv_at hl 0 rfl) ?_
          refine va_get (D := (dC, dI)) (ci := 7) (v := .ref (ad 32)) (C := "StabilitySums$Cuts") (T := TB_C) (N := 4) hx hb hts ui_C hown hK hP 7 rfl rfl 2 (by decide) (hts _ uw_228) (fun _ h9 => h9) rfl de_C_add_36 ?_
          refine lv_iload hx hb de_C_add_39 (lv_at hl 3 rfl) ?_
          refine lv_dup2_11 hx hb de_C_add_41 rfl rfl ?_
          refine rw_lald (f := t1.1 20) (j := i) hx hb hK hP 32 0 rfl rfl (by omega) (by decide) de_C_add_42 ?_
          refine lv_lload_n hx hb de_C_add_43 rfl (lv_at hl 1 rfl) ?_
          refine lv_aload_n hx hb de_C_add_44 rfl (lv_at hl 0 rfl) ?_
          refine va_get (D := (dC, dI)) (ci := 7) (v := .ref (ad 30)) (C := "StabilitySums$Cuts") (T := TB_C) (N := 4) hx hb hts ui_C hown hK hP 7 rfl rfl 0 (by decide) (hts _ uw_224) (fun _ h9 => h9) rfl de_C_add_45 ?_
          refine lv_iload hx hb de_C_add_48 (lv_at hl 3 rfl) ?_
          refine rw_lald (f := t1.1 18) (j := i) hx hb hK hP 30 0 rfl rfl (by omega) (by decide) de_C_add_50 ?_
          refine lv_lload_n hx hb de_C_add_51 rfl (lv_at hl 2 rfl) ?_
          refine lv_lsub hx hb de_C_add_52 ?_
          refine lv_topl (fun v_5 ev_5 => ?_)
          have ev_5 : v_5 = (t1.1 18 i) - a1 := ev_5
          refine lv_lmul hx hb de_C_add_53 ?_
          refine lv_topl (fun v_6 ev_6 => ?_)
          have ev_6 : v_6 = a0 * v_5 := ev_6
          refine lv_ladd hx hb de_C_add_54 ?_
          refine lv_topl (fun v_7 ev_7 => ?_)
          have ev_7 : v_7 = (t1.1 20 i) + v_6 := ev_7
          refine rw_last (f := t1.1 20) (j := i) (x := v_7) hx hb hK hP hD hS 32 0 rfl rfl (by omega) (by decide) de_C_add_55 (fun H locs hP hD hS => ?_)
          have hP : va_P (dC, dI) CLS (wS ad T (sL (sL t1 19 i v_4) 20 i v_7)) H := hP
          have hD : va_D A (wS ad T (sL (sL t1 19 i v_4) 20 i v_7)) := hD
          refine lv_iinc (v := (nI (i + 1))) (lv' := [(5, .int (nI (i + 1))), (0, .ref (ad 7)), (1, .long a0), (3, .long a1)]) hx hb de_C_add_56 hl (k := 3) rfl (nI_1 i) (by decide) rfl (fun ls hl => ?_)
          refine lv_goto (tgt := 3) hx hb de_C_add_59 (by decide) ?_
          exact ih (i + 1) (sL (sL t1 19 i v_4) 20 i v_7) (by omega) hk (by rw [← hq, x_cadd]; subst_vars; first | rw [if_pos (Int64.not_le.mp c_3)] | rw [if_neg (fun z => absurd c_3 (Int64.not_le.mpr z))]) H locs ls hP hD hS (lv_sub hl [1, 2, 3, 0] rfl)
  exact loop_3 (t.2.2.2 5 + 1) 0 t (by omega) rfl rfl _ _ ls hP hD hS (lv_sub hl [1, 2, 3, 0] rfl)
set_option maxHeartbeats 4000000 in
set_option maxRecDepth 100000 in
theorem mt_W_append (l : Launch) (dC : Nat → ClassId) (dI : Nat → Nat → Nat) (ad : Nat → Nat) (T : Nat → ClassId) (t : St) (a0 : Int64) (a1 : Int64) (a2 : Int64) (a3 : Int64) (hc : t.2.2.2 0 < 40) (sz : Nat) : Met l yn_W_append (.code yn_W_append cd_W_append 10 (some .int) :: UW) ({ frames := 0, cells := 0, slots := 0, locals := 0 } : Room) (va_Pc [.ref (ad 1), .long a0, .long a1, .long a2, .long a3] (Pw (dC, dI) CLS (TY T) (wS ad T t) sz)) (va_Qi (fun (r : Int32) (_ : Unit) => r = nI (t.2.2.2 0)) (Bw (dC, dI) CLS (TY T) (fun _ : Unit => (wS ad T (x_wapp a0 a1 a2 a3 t))) (va_A (wS ad T t) sz)) (va_A (wS ad T t) sz)) 0 0 (va_A (wS ad T t) sz) := by
  refine Met.ofW (cc := cd_W_append) (maxL := 10) (ret := (some .int)) (by decide) rfl ?_
  intro p e s m args below meth c s₁ B hml hv
  obtain ⟨rfl, hsz, hP, hK, hD0, hN⟩ := hv
  have hx := B.exec
  have hb := B.bytes
  have hr := B.returns
  have hts : ∀ w ∈ UW, w.before _ s = true := fun w h => atoms_spec (ws := .code yn_W_append cd_W_append 10 (some .int) :: UW) B.pre w (List.mem_cons_of_mem _ h)
  have hown : s.vm.findClass "StabilitySums$Weights" = some m.cls := findClass_of_methodNamed B.named
  have hlocks := B.notSynchronized
  subst hsz
  have hD := hD0.self (sz := s.heap.size)
  generalize hAe : va_A (wS ad T t) s.heap.size = A at hD ⊢
  have hA : ∀ q : Nat, s.heap.size ≤ q → A q := fun q h => by rw [← hAe]; exact Or.inr h
  have hS : va_S A s.heap s.heap [] := va_S.rf
  have hl := lv_entry ([.ref (ad 1), .long a0, .long a1, .long a2, .long a3]) (n := 10) (Nat.le_of_ble_eq_true rfl)
  rw [lg_entry_eq]
  generalize (lg_sl ([.ref (ad 1), .long a0, .long a1, .long a2, .long a3]) ++ List.replicate (10 - (lg_sl ([.ref (ad 1), .long a0, .long a1, .long a2, .long a3])).length) Slot.unset).toArray = ls at hl ⊢
  have hl : lv_has ls 10 [(0, .ref (ad 1)), (1, .long a0), (3, .long a1), (5, .long a2), (7, .long a3)] := hl
  generalize hQ : MQ below _ _ s 0 0 A = Q
  refine lv_aload_n hx hb de_W_append_0 rfl (lv_at hl 0 rfl) ?_
  refine va_get (D := (dC, dI)) (ci := 1) (v := .int (nI (t.2.2.2 0))) (C := "StabilitySums$Weights") (T := TB_W) (N := 5) hx hb hts ui_W hown hK hP 1 rfl rfl 4 (by decide) (hts _ uw_67) (fun _ h9 => h9) rfl de_W_append_1 ?_
  refine lv_istore (lv' := [(9, .int (nI (t.2.2.2 0))), (0, .ref (ad 1)), (1, .long a0), (3, .long a1), (5, .long a2), (7, .long a3)]) hx hb de_W_append_4 hl (by decide) rfl (fun ls hl => ?_)
  refine lv_aload_n hx hb de_W_append_6 rfl (lv_at hl 1 rfl) ?_
  refine va_get (D := (dC, dI)) (ci := 1) (v := .ref (ad 9)) (C := "StabilitySums$Weights") (T := TB_W) (N := 5) hx hb hts ui_W hown hK hP 1 rfl rfl 0 (by decide) (hts _ uw_59) (fun _ h9 => h9) rfl de_W_append_7 ?_
  refine lv_iload hx hb de_W_append_10 (lv_at hl 0 rfl) ?_
  refine lv_lload_n hx hb de_W_append_12 rfl (lv_at hl 2 rfl) ?_
  refine rw_last (f := t.1 0) (j := (t.2.2.2 0)) (x := a0) hx hb hK hP hD hS 9 0 rfl rfl (by omega) (by decide) de_W_append_13 (fun H locs hP hD hS => ?_)
  have hP : va_P (dC, dI) CLS (wS ad T (sL t 0 (t.2.2.2 0) a0)) H := hP
  have hD : va_D A (wS ad T (sL t 0 (t.2.2.2 0) a0)) := hD
  refine lv_aload_n hx hb de_W_append_14 rfl (lv_at hl 1 rfl) ?_
  refine va_get (D := (dC, dI)) (ci := 1) (v := .ref (ad 10)) (C := "StabilitySums$Weights") (T := TB_W) (N := 5) hx hb hts ui_W hown hK hP 1 rfl rfl 1 (by decide) (hts _ uw_61) (fun _ h9 => h9) rfl de_W_append_15 ?_
  refine lv_iload hx hb de_W_append_18 (lv_at hl 0 rfl) ?_
  refine lv_lload_n hx hb de_W_append_20 rfl (lv_at hl 3 rfl) ?_
  refine rw_last (f := t.1 1) (j := (t.2.2.2 0)) (x := a1) hx hb hK hP hD hS 10 0 rfl rfl (by omega) (by decide) de_W_append_21 (fun H locs hP hD hS => ?_)
  have hP : va_P (dC, dI) CLS (wS ad T (sL (sL t 0 (t.2.2.2 0) a0) 1 (t.2.2.2 0) a1)) H := hP
  have hD : va_D A (wS ad T (sL (sL t 0 (t.2.2.2 0) a0) 1 (t.2.2.2 0) a1)) := hD
  refine lv_aload_n hx hb de_W_append_22 rfl (lv_at hl 1 rfl) ?_
  refine va_get (D := (dC, dI)) (ci := 1) (v := .ref (ad 11)) (C := "StabilitySums$Weights") (T := TB_W) (N := 5) hx hb hts ui_W hown hK hP 1 rfl rfl 2 (by decide) (hts _ uw_63) (fun _ h9 => h9) rfl de_W_append_23 ?_
  refine lv_iload hx hb de_W_append_26 (lv_at hl 0 rfl) ?_
  refine lv_lload hx hb de_W_append_28 (lv_at hl 4 rfl) ?_
  refine rw_last (f := t.1 2) (j := (t.2.2.2 0)) (x := a2) hx hb hK hP hD hS 11 0 rfl rfl (by omega) (by decide) de_W_append_30 (fun H locs hP hD hS => ?_)
  have hP : va_P (dC, dI) CLS (wS ad T (sL (sL (sL t 0 (t.2.2.2 0) a0) 1 (t.2.2.2 0) a1) 2 (t.2.2.2 0) a2)) H := hP
  have hD : va_D A (wS ad T (sL (sL (sL t 0 (t.2.2.2 0) a0) 1 (t.2.2.2 0) a1) 2 (t.2.2.2 0) a2)) := hD
  refine lv_aload_n hx hb de_W_append_31 rfl (lv_at hl 1 rfl) ?_
  refine va_get (D := (dC, dI)) (ci := 1) (v := .ref (ad 12)) (C := "StabilitySums$Weights") (T := TB_W) (N := 5) hx hb hts ui_W hown hK hP 1 rfl rfl 3 (by decide) (hts _ uw_65) (fun _ h9 => h9) rfl de_W_append_32 ?_
  refine lv_iload hx hb de_W_append_35 (lv_at hl 0 rfl) ?_
  refine lv_lload hx hb de_W_append_37 (lv_at hl 5 rfl) ?_
  refine rw_last (f := t.1 3) (j := (t.2.2.2 0)) (x := a3) hx hb hK hP hD hS 12 0 rfl rfl (by omega) (by decide) de_W_append_39 (fun H locs hP hD hS => ?_)
  have hP : va_P (dC, dI) CLS (wS ad T (sL (sL (sL (sL t 0 (t.2.2.2 0) a0) 1 (t.2.2.2 0) a1) 2 (t.2.2.2 0) a2) 3 (t.2.2.2 0) a3)) H := hP
  have hD : va_D A (wS ad T (sL (sL (sL (sL t 0 (t.2.2.2 0) a0) 1 (t.2.2.2 0) a1) 2 (t.2.2.2 0) a2) 3 (t.2.2.2 0) a3)) := hD
  refine lv_aload_n hx hb de_W_append_40 rfl (lv_at hl 1 rfl) ?_
  refine lv_dup hx hb de_W_append_41 rfl ?_
  refine va_get (D := (dC, dI)) (ci := 1) (v := .int (nI (t.2.2.2 0))) (C := "StabilitySums$Weights") (T := TB_W) (N := 5) hx hb hts ui_W hown hK hP 1 rfl rfl 4 (by decide) (hts _ uw_67) (fun _ h9 => h9) rfl de_W_append_42 ?_
  refine lv_iconst (v := 1) hx hb de_W_append_45 (by decide) ?_
  refine lv_iadd hx hb de_W_append_46 ?_
  refine lv_topi (fun v_1 ev_1 => ?_)
  have ev_1 : v_1 = (nI ((t.2.2.2 0) + 1)) := ev_1.trans (nI_add (t.2.2.2 0) 1)
  subst ev_1
  refine va_put (D := (dC, dI)) (ci := 1) (v := .int (nI ((t.2.2.2 0) + 1))) (ty := .int) (C := "StabilitySums$Weights") (T := TB_W) (N := 5) hx hb hts ui_W tt_W tk_W nm_W hown hK hP hD hS 1 rfl rfl 4 (by decide) (hts _ uw_67) (fun _ h9 => h9) rfl (by decide +kernel) rfl rfl (Nat.le_of_ble_eq_true rfl) de_W_append_47 (fun H locs hP hD hS => ?_)
  have hP : va_P (dC, dI) CLS (wS ad T (sN (sL (sL (sL (sL t 0 (t.2.2.2 0) a0) 1 (t.2.2.2 0) a1) 2 (t.2.2.2 0) a2) 3 (t.2.2.2 0) a3) 0 ((t.2.2.2 0) + 1))) H := hP
  have hD : va_D A (wS ad T (sN (sL (sL (sL (sL t 0 (t.2.2.2 0) a0) 1 (t.2.2.2 0) a1) 2 (t.2.2.2 0) a2) 3 (t.2.2.2 0) a3) 0 ((t.2.2.2 0) + 1))) := hD
  refine lv_iload hx hb de_W_append_50 (lv_at hl 0 rfl) ?_
  have hfin : (sN (sL (sL (sL (sL t 0 (t.2.2.2 0) a0) 1 (t.2.2.2 0) a1) 2 (t.2.2.2 0) a2) 3 (t.2.2.2 0) a3) 0 ((t.2.2.2 0) + 1)) = x_wapp a0 a1 a2 a3 t := by
    rfl
  rw [hfin] at hP hD
  subst hQ
  have hpost : (nI (t.2.2.2 0)) = nI (t.2.2.2 0) := by
    rfl
  exact W.iret (v := (nI (t.2.2.2 0))) hx hb hr (fun t9 ht hW => ⟨⟨(nI (t.2.2.2 0)), (), rfl, hpost, by rw [ht]; exact hP, va_K.moved hW.alike hK, hD⟩, hS.F ht⟩) hS.2.2 de_W_append_52
set_option maxHeartbeats 4000000 in
set_option maxRecDepth 100000 in
theorem mt_T_append (l : Launch) (dC : Nat → ClassId) (dI : Nat → Nat → Nat) (ad : Nat → Nat) (T : Nat → ClassId) (t : St) (a0 : Int64) (a1 : Int64) (a2 : Int64) (a3 : Int64) (a4 : Int64) (hc : t.2.2.2 1 < 4) (sz : Nat) : Met l yn_T_append (.code yn_T_append cd_T_append 12 (some .int) :: UW) ({ frames := 0, cells := 0, slots := 0, locals := 0 } : Room) (va_Pc [.ref (ad 2), .long a0, .long a1, .long a2, .long a3, .long a4] (Pw (dC, dI) CLS (TY T) (wS ad T t) sz)) (va_Qi (fun (r : Int32) (_ : Unit) => r = nI (t.2.2.2 1)) (Bw (dC, dI) CLS (TY T) (fun _ : Unit => (wS ad T (x_tapp a0 a1 a2 a3 a4 t))) (va_A (wS ad T t) sz)) (va_A (wS ad T t) sz)) 0 0 (va_A (wS ad T t) sz) := by
  refine Met.ofW (cc := cd_T_append) (maxL := 12) (ret := (some .int)) (by decide) rfl ?_
  intro p e s m args below meth c s₁ B hml hv
  obtain ⟨rfl, hsz, hP, hK, hD0, hN⟩ := hv
  have hx := B.exec
  have hb := B.bytes
  have hr := B.returns
  have hts : ∀ w ∈ UW, w.before _ s = true := fun w h => atoms_spec (ws := .code yn_T_append cd_T_append 12 (some .int) :: UW) B.pre w (List.mem_cons_of_mem _ h)
  have hown : s.vm.findClass "StabilitySums$Tanks" = some m.cls := findClass_of_methodNamed B.named
  have hlocks := B.notSynchronized
  subst hsz
  have hD := hD0.self (sz := s.heap.size)
  generalize hAe : va_A (wS ad T t) s.heap.size = A at hD ⊢
  have hA : ∀ q : Nat, s.heap.size ≤ q → A q := fun q h => by rw [← hAe]; exact Or.inr h
  have hS : va_S A s.heap s.heap [] := va_S.rf
  have hl := lv_entry ([.ref (ad 2), .long a0, .long a1, .long a2, .long a3, .long a4]) (n := 12) (Nat.le_of_ble_eq_true rfl)
  rw [lg_entry_eq]
  generalize (lg_sl ([.ref (ad 2), .long a0, .long a1, .long a2, .long a3, .long a4]) ++ List.replicate (12 - (lg_sl ([.ref (ad 2), .long a0, .long a1, .long a2, .long a3, .long a4])).length) Slot.unset).toArray = ls at hl ⊢
  have hl : lv_has ls 12 [(0, .ref (ad 2)), (1, .long a0), (3, .long a1), (5, .long a2), (7, .long a3), (9, .long a4)] := hl
  generalize hQ : MQ below _ _ s 0 0 A = Q
  refine lv_aload_n hx hb de_T_append_0 rfl (lv_at hl 0 rfl) ?_
  refine va_get (D := (dC, dI)) (ci := 2) (v := .int (nI (t.2.2.2 1))) (C := "StabilitySums$Tanks") (T := TB_T) (N := 9) hx hb hts ui_T hown hK hP 2 rfl rfl 8 (by decide) (hts _ uw_102) (fun _ h9 => h9) rfl de_T_append_1 ?_
  refine lv_istore (lv' := [(11, .int (nI (t.2.2.2 1))), (0, .ref (ad 2)), (1, .long a0), (3, .long a1), (5, .long a2), (7, .long a3), (9, .long a4)]) hx hb de_T_append_4 hl (by decide) rfl (fun ls hl => ?_)
  refine lv_aload_n hx hb de_T_append_6 rfl (lv_at hl 1 rfl) ?_
  refine va_get (D := (dC, dI)) (ci := 2) (v := .ref (ad 13)) (C := "StabilitySums$Tanks") (T := TB_T) (N := 9) hx hb hts ui_T hown hK hP 2 rfl rfl 0 (by decide) (hts _ uw_87) (fun _ h9 => h9) rfl de_T_append_7 ?_
  refine lv_iload hx hb de_T_append_10 (lv_at hl 0 rfl) ?_
  refine lv_lload_n hx hb de_T_append_12 rfl (lv_at hl 2 rfl) ?_
  refine rw_last (f := t.1 4) (j := (t.2.2.2 1)) (x := a0) hx hb hK hP hD hS 13 0 rfl rfl (by omega) (by decide) de_T_append_13 (fun H locs hP hD hS => ?_)
  have hP : va_P (dC, dI) CLS (wS ad T (sL t 4 (t.2.2.2 1) a0)) H := hP
  have hD : va_D A (wS ad T (sL t 4 (t.2.2.2 1) a0)) := hD
  refine lv_aload_n hx hb de_T_append_14 rfl (lv_at hl 1 rfl) ?_
  refine va_get (D := (dC, dI)) (ci := 2) (v := .ref (ad 14)) (C := "StabilitySums$Tanks") (T := TB_T) (N := 9) hx hb hts ui_T hown hK hP 2 rfl rfl 1 (by decide) (hts _ uw_89) (fun _ h9 => h9) rfl de_T_append_15 ?_
  refine lv_iload hx hb de_T_append_18 (lv_at hl 0 rfl) ?_
  refine lv_lload_n hx hb de_T_append_20 rfl (lv_at hl 3 rfl) ?_
  refine rw_last (f := t.1 5) (j := (t.2.2.2 1)) (x := a1) hx hb hK hP hD hS 14 0 rfl rfl (by omega) (by decide) de_T_append_21 (fun H locs hP hD hS => ?_)
  have hP : va_P (dC, dI) CLS (wS ad T (sL (sL t 4 (t.2.2.2 1) a0) 5 (t.2.2.2 1) a1)) H := hP
  have hD : va_D A (wS ad T (sL (sL t 4 (t.2.2.2 1) a0) 5 (t.2.2.2 1) a1)) := hD
  refine lv_aload_n hx hb de_T_append_22 rfl (lv_at hl 1 rfl) ?_
  refine va_get (D := (dC, dI)) (ci := 2) (v := .ref (ad 15)) (C := "StabilitySums$Tanks") (T := TB_T) (N := 9) hx hb hts ui_T hown hK hP 2 rfl rfl 2 (by decide) (hts _ uw_90) (fun _ h9 => h9) rfl de_T_append_23 ?_
  refine lv_iload hx hb de_T_append_26 (lv_at hl 0 rfl) ?_
  refine lv_lload hx hb de_T_append_28 (lv_at hl 4 rfl) ?_
  refine rw_last (f := t.1 6) (j := (t.2.2.2 1)) (x := a2) hx hb hK hP hD hS 15 0 rfl rfl (by omega) (by decide) de_T_append_30 (fun H locs hP hD hS => ?_)
  have hP : va_P (dC, dI) CLS (wS ad T (sL (sL (sL t 4 (t.2.2.2 1) a0) 5 (t.2.2.2 1) a1) 6 (t.2.2.2 1) a2)) H := hP
  have hD : va_D A (wS ad T (sL (sL (sL t 4 (t.2.2.2 1) a0) 5 (t.2.2.2 1) a1) 6 (t.2.2.2 1) a2)) := hD
  refine lv_aload_n hx hb de_T_append_31 rfl (lv_at hl 1 rfl) ?_
  refine va_get (D := (dC, dI)) (ci := 2) (v := .ref (ad 16)) (C := "StabilitySums$Tanks") (T := TB_T) (N := 9) hx hb hts ui_T hown hK hP 2 rfl rfl 3 (by decide) (hts _ uw_92) (fun _ h9 => h9) rfl de_T_append_32 ?_
  refine lv_iload hx hb de_T_append_35 (lv_at hl 0 rfl) ?_
  refine lv_lload hx hb de_T_append_37 (lv_at hl 5 rfl) ?_
  refine rw_last (f := t.1 7) (j := (t.2.2.2 1)) (x := a3) hx hb hK hP hD hS 16 0 rfl rfl (by omega) (by decide) de_T_append_39 (fun H locs hP hD hS => ?_)
  have hP : va_P (dC, dI) CLS (wS ad T (sL (sL (sL (sL t 4 (t.2.2.2 1) a0) 5 (t.2.2.2 1) a1) 6 (t.2.2.2 1) a2) 7 (t.2.2.2 1) a3)) H := hP
  have hD : va_D A (wS ad T (sL (sL (sL (sL t 4 (t.2.2.2 1) a0) 5 (t.2.2.2 1) a1) 6 (t.2.2.2 1) a2) 7 (t.2.2.2 1) a3)) := hD
  refine lv_aload_n hx hb de_T_append_40 rfl (lv_at hl 1 rfl) ?_
  refine va_get (D := (dC, dI)) (ci := 2) (v := .ref (ad 17)) (C := "StabilitySums$Tanks") (T := TB_T) (N := 9) hx hb hts ui_T hown hK hP 2 rfl rfl 4 (by decide) (hts _ uw_94) (fun _ h9 => h9) rfl de_T_append_41 ?_
  refine lv_iload hx hb de_T_append_44 (lv_at hl 0 rfl) ?_
  refine lv_lload hx hb de_T_append_46 (lv_at hl 6 rfl) ?_
  refine rw_last (f := t.1 8) (j := (t.2.2.2 1)) (x := a4) hx hb hK hP hD hS 17 0 rfl rfl (by omega) (by decide) de_T_append_48 (fun H locs hP hD hS => ?_)
  have hP : va_P (dC, dI) CLS (wS ad T (sL (sL (sL (sL (sL t 4 (t.2.2.2 1) a0) 5 (t.2.2.2 1) a1) 6 (t.2.2.2 1) a2) 7 (t.2.2.2 1) a3) 8 (t.2.2.2 1) a4)) H := hP
  have hD : va_D A (wS ad T (sL (sL (sL (sL (sL t 4 (t.2.2.2 1) a0) 5 (t.2.2.2 1) a1) 6 (t.2.2.2 1) a2) 7 (t.2.2.2 1) a3) 8 (t.2.2.2 1) a4)) := hD
  refine lv_aload_n hx hb de_T_append_49 rfl (lv_at hl 1 rfl) ?_
  refine lv_dup hx hb de_T_append_50 rfl ?_
  refine va_get (D := (dC, dI)) (ci := 2) (v := .int (nI (t.2.2.2 1))) (C := "StabilitySums$Tanks") (T := TB_T) (N := 9) hx hb hts ui_T hown hK hP 2 rfl rfl 8 (by decide) (hts _ uw_102) (fun _ h9 => h9) rfl de_T_append_51 ?_
  refine lv_iconst (v := 1) hx hb de_T_append_54 (by decide) ?_
  refine lv_iadd hx hb de_T_append_55 ?_
  refine lv_topi (fun v_1 ev_1 => ?_)
  have ev_1 : v_1 = (nI ((t.2.2.2 1) + 1)) := ev_1.trans (nI_add (t.2.2.2 1) 1)
  subst ev_1
  refine va_put (D := (dC, dI)) (ci := 2) (v := .int (nI ((t.2.2.2 1) + 1))) (ty := .int) (C := "StabilitySums$Tanks") (T := TB_T) (N := 9) hx hb hts ui_T tt_T tk_T nm_T hown hK hP hD hS 2 rfl rfl 8 (by decide) (hts _ uw_102) (fun _ h9 => h9) rfl (by decide +kernel) rfl rfl (Nat.le_of_ble_eq_true rfl) de_T_append_56 (fun H locs hP hD hS => ?_)
  have hP : va_P (dC, dI) CLS (wS ad T (sN (sL (sL (sL (sL (sL t 4 (t.2.2.2 1) a0) 5 (t.2.2.2 1) a1) 6 (t.2.2.2 1) a2) 7 (t.2.2.2 1) a3) 8 (t.2.2.2 1) a4) 1 ((t.2.2.2 1) + 1))) H := hP
  have hD : va_D A (wS ad T (sN (sL (sL (sL (sL (sL t 4 (t.2.2.2 1) a0) 5 (t.2.2.2 1) a1) 6 (t.2.2.2 1) a2) 7 (t.2.2.2 1) a3) 8 (t.2.2.2 1) a4) 1 ((t.2.2.2 1) + 1))) := hD
  refine lv_iload hx hb de_T_append_59 (lv_at hl 0 rfl) ?_
  have hfin : (sN (sL (sL (sL (sL (sL t 4 (t.2.2.2 1) a0) 5 (t.2.2.2 1) a1) 6 (t.2.2.2 1) a2) 7 (t.2.2.2 1) a3) 8 (t.2.2.2 1) a4) 1 ((t.2.2.2 1) + 1)) = x_tapp a0 a1 a2 a3 a4 t := by
    rfl
  rw [hfin] at hP hD
  subst hQ
  have hpost : (nI (t.2.2.2 1)) = nI (t.2.2.2 1) := by
    rfl
  exact W.iret (v := (nI (t.2.2.2 1))) hx hb hr (fun t9 ht hW => ⟨⟨(nI (t.2.2.2 1)), (), rfl, hpost, by rw [ht]; exact hP, va_K.moved hW.alike hK, hD⟩, hS.F ht⟩) hS.2.2 de_T_append_61
set_option maxHeartbeats 4000000 in
set_option maxRecDepth 100000 in
theorem mt_B_append (l : Launch) (dC : Nat → ClassId) (dI : Nat → Nat → Nat) (ad : Nat → Nat) (T : Nat → ClassId) (t : St) (a0 : Int64) (a1 : Int64) (a2 : Int64) (hc : t.2.2.2 2 < 12) (sz : Nat) : Met l yn_B_append (.code yn_B_append cd_B_append 7 (some .int) :: UW) ({ frames := 0, cells := 0, slots := 0, locals := 0 } : Room) (va_Pc [.ref (ad 3), .long a0, .long a1, .long a2] (Pw (dC, dI) CLS (TY T) (wS ad T t) sz)) (va_Qi (fun (r : Int32) (_ : Unit) => r = nI (t.2.2.2 2 + 1)) (Bw (dC, dI) CLS (TY T) (fun _ : Unit => (wS ad T (x_bapp a0 a1 a2 t))) (va_A (wS ad T t) sz)) (va_A (wS ad T t) sz)) 0 0 (va_A (wS ad T t) sz) := by
  refine Met.ofW (cc := cd_B_append) (maxL := 7) (ret := (some .int)) (by decide) rfl ?_
  intro p e s m args below meth c s₁ B hml hv
  obtain ⟨rfl, hsz, hP, hK, hD0, hN⟩ := hv
  have hx := B.exec
  have hb := B.bytes
  have hr := B.returns
  have hts : ∀ w ∈ UW, w.before _ s = true := fun w h => atoms_spec (ws := .code yn_B_append cd_B_append 7 (some .int) :: UW) B.pre w (List.mem_cons_of_mem _ h)
  have hown : s.vm.findClass "StabilitySums$Table" = some m.cls := findClass_of_methodNamed B.named
  have hlocks := B.notSynchronized
  subst hsz
  have hD := hD0.self (sz := s.heap.size)
  generalize hAe : va_A (wS ad T t) s.heap.size = A at hD ⊢
  have hA : ∀ q : Nat, s.heap.size ≤ q → A q := fun q h => by rw [← hAe]; exact Or.inr h
  have hS : va_S A s.heap s.heap [] := va_S.rf
  have hl := lv_entry ([.ref (ad 3), .long a0, .long a1, .long a2]) (n := 7) (Nat.le_of_ble_eq_true rfl)
  rw [lg_entry_eq]
  generalize (lg_sl ([.ref (ad 3), .long a0, .long a1, .long a2]) ++ List.replicate (7 - (lg_sl ([.ref (ad 3), .long a0, .long a1, .long a2])).length) Slot.unset).toArray = ls at hl ⊢
  have hl : lv_has ls 7 [(0, .ref (ad 3)), (1, .long a0), (3, .long a1), (5, .long a2)] := hl
  generalize hQ : MQ below _ _ s 0 0 A = Q
  refine lv_aload_n hx hb de_B_append_0 rfl (lv_at hl 0 rfl) ?_
  refine va_get (D := (dC, dI)) (ci := 3) (v := .ref (ad 21)) (C := "StabilitySums$Table") (T := TB_B) (N := 4) hx hb hts ui_B hown hK hP 3 rfl rfl 0 (by decide) (hts _ uw_129) (fun _ h9 => h9) rfl de_B_append_1 ?_
  refine lv_aload_n hx hb de_B_append_4 rfl (lv_at hl 0 rfl) ?_
  refine va_get (D := (dC, dI)) (ci := 3) (v := .int (nI (t.2.2.2 2))) (C := "StabilitySums$Table") (T := TB_B) (N := 4) hx hb hts ui_B hown hK hP 3 rfl rfl 3 (by decide) (hts _ uw_134) (fun _ h9 => h9) rfl de_B_append_5 ?_
  refine lv_lload_n hx hb de_B_append_8 rfl (lv_at hl 1 rfl) ?_
  refine rw_last (f := t.1 12) (j := (t.2.2.2 2)) (x := a0) hx hb hK hP hD hS 21 0 rfl rfl (by omega) (by decide) de_B_append_9 (fun H locs hP hD hS => ?_)
  have hP : va_P (dC, dI) CLS (wS ad T (sL t 12 (t.2.2.2 2) a0)) H := hP
  have hD : va_D A (wS ad T (sL t 12 (t.2.2.2 2) a0)) := hD
  refine lv_aload_n hx hb de_B_append_10 rfl (lv_at hl 0 rfl) ?_
  refine va_get (D := (dC, dI)) (ci := 3) (v := .ref (ad 22)) (C := "StabilitySums$Table") (T := TB_B) (N := 4) hx hb hts ui_B hown hK hP 3 rfl rfl 1 (by decide) (hts _ uw_130) (fun _ h9 => h9) rfl de_B_append_11 ?_
  refine lv_aload_n hx hb de_B_append_14 rfl (lv_at hl 0 rfl) ?_
  refine va_get (D := (dC, dI)) (ci := 3) (v := .int (nI (t.2.2.2 2))) (C := "StabilitySums$Table") (T := TB_B) (N := 4) hx hb hts ui_B hown hK hP 3 rfl rfl 3 (by decide) (hts _ uw_134) (fun _ h9 => h9) rfl de_B_append_15 ?_
  refine lv_lload_n hx hb de_B_append_18 rfl (lv_at hl 2 rfl) ?_
  refine rw_last (f := t.1 13) (j := (t.2.2.2 2)) (x := a1) hx hb hK hP hD hS 22 0 rfl rfl (by omega) (by decide) de_B_append_19 (fun H locs hP hD hS => ?_)
  have hP : va_P (dC, dI) CLS (wS ad T (sL (sL t 12 (t.2.2.2 2) a0) 13 (t.2.2.2 2) a1)) H := hP
  have hD : va_D A (wS ad T (sL (sL t 12 (t.2.2.2 2) a0) 13 (t.2.2.2 2) a1)) := hD
  refine lv_aload_n hx hb de_B_append_20 rfl (lv_at hl 0 rfl) ?_
  refine va_get (D := (dC, dI)) (ci := 3) (v := .ref (ad 23)) (C := "StabilitySums$Table") (T := TB_B) (N := 4) hx hb hts ui_B hown hK hP 3 rfl rfl 2 (by decide) (hts _ uw_132) (fun _ h9 => h9) rfl de_B_append_21 ?_
  refine lv_aload_n hx hb de_B_append_24 rfl (lv_at hl 0 rfl) ?_
  refine va_get (D := (dC, dI)) (ci := 3) (v := .int (nI (t.2.2.2 2))) (C := "StabilitySums$Table") (T := TB_B) (N := 4) hx hb hts ui_B hown hK hP 3 rfl rfl 3 (by decide) (hts _ uw_134) (fun _ h9 => h9) rfl de_B_append_25 ?_
  refine lv_lload hx hb de_B_append_28 (lv_at hl 3 rfl) ?_
  refine rw_last (f := t.1 14) (j := (t.2.2.2 2)) (x := a2) hx hb hK hP hD hS 23 0 rfl rfl (by omega) (by decide) de_B_append_30 (fun H locs hP hD hS => ?_)
  have hP : va_P (dC, dI) CLS (wS ad T (sL (sL (sL t 12 (t.2.2.2 2) a0) 13 (t.2.2.2 2) a1) 14 (t.2.2.2 2) a2)) H := hP
  have hD : va_D A (wS ad T (sL (sL (sL t 12 (t.2.2.2 2) a0) 13 (t.2.2.2 2) a1) 14 (t.2.2.2 2) a2)) := hD
  refine lv_aload_n hx hb de_B_append_31 rfl (lv_at hl 0 rfl) ?_
  refine lv_dup hx hb de_B_append_32 rfl ?_
  refine va_get (D := (dC, dI)) (ci := 3) (v := .int (nI (t.2.2.2 2))) (C := "StabilitySums$Table") (T := TB_B) (N := 4) hx hb hts ui_B hown hK hP 3 rfl rfl 3 (by decide) (hts _ uw_134) (fun _ h9 => h9) rfl de_B_append_33 ?_
  refine lv_iconst (v := 1) hx hb de_B_append_36 (by decide) ?_
  refine lv_iadd hx hb de_B_append_37 ?_
  refine lv_topi (fun v_1 ev_1 => ?_)
  have ev_1 : v_1 = (nI ((t.2.2.2 2) + 1)) := ev_1.trans (nI_add (t.2.2.2 2) 1)
  subst ev_1
  refine va_put (D := (dC, dI)) (ci := 3) (v := .int (nI ((t.2.2.2 2) + 1))) (ty := .int) (C := "StabilitySums$Table") (T := TB_B) (N := 4) hx hb hts ui_B tt_B tk_B nm_B hown hK hP hD hS 3 rfl rfl 3 (by decide) (hts _ uw_134) (fun _ h9 => h9) rfl (by decide +kernel) rfl rfl (Nat.le_of_ble_eq_true rfl) de_B_append_38 (fun H locs hP hD hS => ?_)
  have hP : va_P (dC, dI) CLS (wS ad T (sN (sL (sL (sL t 12 (t.2.2.2 2) a0) 13 (t.2.2.2 2) a1) 14 (t.2.2.2 2) a2) 2 ((t.2.2.2 2) + 1))) H := hP
  have hD : va_D A (wS ad T (sN (sL (sL (sL t 12 (t.2.2.2 2) a0) 13 (t.2.2.2 2) a1) 14 (t.2.2.2 2) a2) 2 ((t.2.2.2 2) + 1))) := hD
  refine lv_aload_n hx hb de_B_append_41 rfl (lv_at hl 0 rfl) ?_
  refine va_get (D := (dC, dI)) (ci := 3) (v := .int (nI ((t.2.2.2 2) + 1))) (C := "StabilitySums$Table") (T := TB_B) (N := 4) hx hb hts ui_B hown hK hP 3 rfl rfl 3 (by decide) (hts _ uw_134) (fun _ h9 => h9) rfl de_B_append_42 ?_
  have hfin : (sN (sL (sL (sL t 12 (t.2.2.2 2) a0) 13 (t.2.2.2 2) a1) 14 (t.2.2.2 2) a2) 2 ((t.2.2.2 2) + 1)) = x_bapp a0 a1 a2 t := by
    rfl
  rw [hfin] at hP hD
  subst hQ
  have hpost : (nI ((t.2.2.2 2) + 1)) = nI (t.2.2.2 2 + 1) := by
    rfl
  exact W.iret (v := (nI ((t.2.2.2 2) + 1))) hx hb hr (fun t9 ht hW => ⟨⟨(nI ((t.2.2.2 2) + 1)), (), rfl, hpost, by rw [ht]; exact hP, va_K.moved hW.alike hK, hD⟩, hS.F ht⟩) hS.2.2 de_B_append_45
set_option maxHeartbeats 4000000 in
set_option maxRecDepth 100000 in
theorem mt_L_append (l : Launch) (dC : Nat → ClassId) (dI : Nat → Nat → Nat) (ad : Nat → Nat) (T : Nat → ClassId) (t : St) (a0 : Int32) (a1 : Int64) (a2 : Int64) (hc : t.2.2.2 3 < 10) (sz : Nat) : Met l yn_L_append (.code yn_L_append cd_L_append 6 (some .int) :: UW) ({ frames := 0, cells := 0, slots := 0, locals := 0 } : Room) (va_Pc [.ref (ad 4), .int a0, .long a1, .long a2] (Pw (dC, dI) CLS (TY T) (wS ad T t) sz)) (va_Qi (fun (r : Int32) (_ : Unit) => r = nI (t.2.2.2 3 + 1)) (Bw (dC, dI) CLS (TY T) (fun _ : Unit => (wS ad T (x_lapp a0 a1 a2 t))) (va_A (wS ad T t) sz)) (va_A (wS ad T t) sz)) 0 0 (va_A (wS ad T t) sz) := by
  refine Met.ofW (cc := cd_L_append) (maxL := 6) (ret := (some .int)) (by decide) rfl ?_
  intro p e s m args below meth c s₁ B hml hv
  obtain ⟨rfl, hsz, hP, hK, hD0, hN⟩ := hv
  have hx := B.exec
  have hb := B.bytes
  have hr := B.returns
  have hts : ∀ w ∈ UW, w.before _ s = true := fun w h => atoms_spec (ws := .code yn_L_append cd_L_append 6 (some .int) :: UW) B.pre w (List.mem_cons_of_mem _ h)
  have hown : s.vm.findClass "StabilitySums$Limits" = some m.cls := findClass_of_methodNamed B.named
  have hlocks := B.notSynchronized
  subst hsz
  have hD := hD0.self (sz := s.heap.size)
  generalize hAe : va_A (wS ad T t) s.heap.size = A at hD ⊢
  have hA : ∀ q : Nat, s.heap.size ≤ q → A q := fun q h => by rw [← hAe]; exact Or.inr h
  have hS : va_S A s.heap s.heap [] := va_S.rf
  have hl := lv_entry ([.ref (ad 4), .int a0, .long a1, .long a2]) (n := 6) (Nat.le_of_ble_eq_true rfl)
  rw [lg_entry_eq]
  generalize (lg_sl ([.ref (ad 4), .int a0, .long a1, .long a2]) ++ List.replicate (6 - (lg_sl ([.ref (ad 4), .int a0, .long a1, .long a2])).length) Slot.unset).toArray = ls at hl ⊢
  have hl : lv_has ls 6 [(0, .ref (ad 4)), (1, .int a0), (2, .long a1), (4, .long a2)] := hl
  generalize hQ : MQ below _ _ s 0 0 A = Q
  refine lv_aload_n hx hb de_L_append_0 rfl (lv_at hl 0 rfl) ?_
  refine lv_dup hx hb de_L_append_1 rfl ?_
  refine va_get (D := (dC, dI)) (ci := 4) (v := .int (nI (t.2.2.2 3))) (C := "StabilitySums$Limits") (T := TB_L) (N := 4) hx hb hts ui_L hown hK hP 4 rfl rfl 3 (by decide) (hts _ uw_155) (fun _ h9 => h9) rfl de_L_append_2 ?_
  refine lv_iconst (v := 1) hx hb de_L_append_5 (by decide) ?_
  refine lv_iadd hx hb de_L_append_6 ?_
  refine lv_topi (fun v_1 ev_1 => ?_)
  have ev_1 : v_1 = (nI ((t.2.2.2 3) + 1)) := ev_1.trans (nI_add (t.2.2.2 3) 1)
  subst ev_1
  refine va_put (D := (dC, dI)) (ci := 4) (v := .int (nI ((t.2.2.2 3) + 1))) (ty := .int) (C := "StabilitySums$Limits") (T := TB_L) (N := 4) hx hb hts ui_L tt_L tk_L nm_L hown hK hP hD hS 4 rfl rfl 3 (by decide) (hts _ uw_155) (fun _ h9 => h9) rfl (by decide +kernel) rfl rfl (Nat.le_of_ble_eq_true rfl) de_L_append_7 (fun H locs hP hD hS => ?_)
  have hP : va_P (dC, dI) CLS (wS ad T (sN t 3 ((t.2.2.2 3) + 1))) H := hP
  have hD : va_D A (wS ad T (sN t 3 ((t.2.2.2 3) + 1))) := hD
  refine lv_aload_n hx hb de_L_append_10 rfl (lv_at hl 0 rfl) ?_
  refine va_get (D := (dC, dI)) (ci := 4) (v := .ref (ad 24)) (C := "StabilitySums$Limits") (T := TB_L) (N := 4) hx hb hts ui_L hown hK hP 4 rfl rfl 0 (by decide) (hts _ uw_151) (fun _ h9 => h9) rfl de_L_append_11 ?_
  refine lv_aload_n hx hb de_L_append_14 rfl (lv_at hl 0 rfl) ?_
  refine va_get (D := (dC, dI)) (ci := 4) (v := .int (nI ((t.2.2.2 3) + 1))) (C := "StabilitySums$Limits") (T := TB_L) (N := 4) hx hb hts ui_L hown hK hP 4 rfl rfl 3 (by decide) (hts _ uw_155) (fun _ h9 => h9) rfl de_L_append_15 ?_
  refine lv_iload_n hx hb de_L_append_18 rfl (lv_at hl 1 rfl) ?_
  refine rw_iast (f := t.2.1 0) (j := ((t.2.2.2 3) + 1)) (x := a0) hx hb hK hP hD hS 24 1 rfl rfl (by omega) (by decide) de_L_append_19 (fun H locs hP hD hS => ?_)
  have hP : va_P (dC, dI) CLS (wS ad T (sI (sN t 3 ((t.2.2.2 3) + 1)) 0 ((t.2.2.2 3) + 1) a0)) H := hP
  have hD : va_D A (wS ad T (sI (sN t 3 ((t.2.2.2 3) + 1)) 0 ((t.2.2.2 3) + 1) a0)) := hD
  refine lv_aload_n hx hb de_L_append_20 rfl (lv_at hl 0 rfl) ?_
  refine va_get (D := (dC, dI)) (ci := 4) (v := .ref (ad 25)) (C := "StabilitySums$Limits") (T := TB_L) (N := 4) hx hb hts ui_L hown hK hP 4 rfl rfl 1 (by decide) (hts _ uw_153) (fun _ h9 => h9) rfl de_L_append_21 ?_
  refine lv_aload_n hx hb de_L_append_24 rfl (lv_at hl 0 rfl) ?_
  refine va_get (D := (dC, dI)) (ci := 4) (v := .int (nI ((t.2.2.2 3) + 1))) (C := "StabilitySums$Limits") (T := TB_L) (N := 4) hx hb hts ui_L hown hK hP 4 rfl rfl 3 (by decide) (hts _ uw_155) (fun _ h9 => h9) rfl de_L_append_25 ?_
  refine lv_lload_n hx hb de_L_append_28 rfl (lv_at hl 2 rfl) ?_
  refine rw_last (f := t.1 15) (j := ((t.2.2.2 3) + 1)) (x := a1) hx hb hK hP hD hS 25 0 rfl rfl (by omega) (by decide) de_L_append_29 (fun H locs hP hD hS => ?_)
  have hP : va_P (dC, dI) CLS (wS ad T (sL (sI (sN t 3 ((t.2.2.2 3) + 1)) 0 ((t.2.2.2 3) + 1) a0) 15 ((t.2.2.2 3) + 1) a1)) H := hP
  have hD : va_D A (wS ad T (sL (sI (sN t 3 ((t.2.2.2 3) + 1)) 0 ((t.2.2.2 3) + 1) a0) 15 ((t.2.2.2 3) + 1) a1)) := hD
  refine lv_aload_n hx hb de_L_append_30 rfl (lv_at hl 0 rfl) ?_
  refine va_get (D := (dC, dI)) (ci := 4) (v := .ref (ad 26)) (C := "StabilitySums$Limits") (T := TB_L) (N := 4) hx hb hts ui_L hown hK hP 4 rfl rfl 2 (by decide) (hts _ uw_154) (fun _ h9 => h9) rfl de_L_append_31 ?_
  refine lv_aload_n hx hb de_L_append_34 rfl (lv_at hl 0 rfl) ?_
  refine va_get (D := (dC, dI)) (ci := 4) (v := .int (nI ((t.2.2.2 3) + 1))) (C := "StabilitySums$Limits") (T := TB_L) (N := 4) hx hb hts ui_L hown hK hP 4 rfl rfl 3 (by decide) (hts _ uw_155) (fun _ h9 => h9) rfl de_L_append_35 ?_
  refine lv_lload hx hb de_L_append_38 (lv_at hl 3 rfl) ?_
  refine rw_last (f := t.1 16) (j := ((t.2.2.2 3) + 1)) (x := a2) hx hb hK hP hD hS 26 0 rfl rfl (by omega) (by decide) de_L_append_40 (fun H locs hP hD hS => ?_)
  have hP : va_P (dC, dI) CLS (wS ad T (sL (sL (sI (sN t 3 ((t.2.2.2 3) + 1)) 0 ((t.2.2.2 3) + 1) a0) 15 ((t.2.2.2 3) + 1) a1) 16 ((t.2.2.2 3) + 1) a2)) H := hP
  have hD : va_D A (wS ad T (sL (sL (sI (sN t 3 ((t.2.2.2 3) + 1)) 0 ((t.2.2.2 3) + 1) a0) 15 ((t.2.2.2 3) + 1) a1) 16 ((t.2.2.2 3) + 1) a2)) := hD
  refine lv_aload_n hx hb de_L_append_41 rfl (lv_at hl 0 rfl) ?_
  refine va_get (D := (dC, dI)) (ci := 4) (v := .int (nI ((t.2.2.2 3) + 1))) (C := "StabilitySums$Limits") (T := TB_L) (N := 4) hx hb hts ui_L hown hK hP 4 rfl rfl 3 (by decide) (hts _ uw_155) (fun _ h9 => h9) rfl de_L_append_42 ?_
  have hfin : (sL (sL (sI (sN t 3 ((t.2.2.2 3) + 1)) 0 ((t.2.2.2 3) + 1) a0) 15 ((t.2.2.2 3) + 1) a1) 16 ((t.2.2.2 3) + 1) a2) = x_lapp a0 a1 a2 t := by
    rfl
  rw [hfin] at hP hD
  subst hQ
  have hpost : (nI ((t.2.2.2 3) + 1)) = nI (t.2.2.2 3 + 1) := by
    rfl
  exact W.iret (v := (nI ((t.2.2.2 3) + 1))) hx hb hr (fun t9 ht hW => ⟨⟨(nI ((t.2.2.2 3) + 1)), (), rfl, hpost, by rw [ht]; exact hP, va_K.moved hW.alike hK, hD⟩, hS.F ht⟩) hS.2.2 de_L_append_45
set_option maxHeartbeats 4000000 in
set_option maxRecDepth 100000 in
theorem mt_E_append (l : Launch) (dC : Nat → ClassId) (dI : Nat → Nat → Nat) (ad : Nat → Nat) (T : Nat → ClassId) (t : St) (a0 : Int32) (a1 : Int32) (a2 : Int64) (hc : t.2.2.2 4 < 20) (sz : Nat) : Met l yn_E_append (.code yn_E_append cd_E_append 6 (some .int) :: UW) ({ frames := 0, cells := 0, slots := 0, locals := 0 } : Room) (va_Pc [.ref (ad 5), .int a0, .int a1, .long a2] (Pw (dC, dI) CLS (TY T) (wS ad T t) sz)) (va_Qi (fun (r : Int32) (_ : Unit) => r = nI (t.2.2.2 4)) (Bw (dC, dI) CLS (TY T) (fun _ : Unit => (wS ad T (x_eapp a0 a1 a2 t))) (va_A (wS ad T t) sz)) (va_A (wS ad T t) sz)) 0 0 (va_A (wS ad T t) sz) := by
  refine Met.ofW (cc := cd_E_append) (maxL := 6) (ret := (some .int)) (by decide) rfl ?_
  intro p e s m args below meth c s₁ B hml hv
  obtain ⟨rfl, hsz, hP, hK, hD0, hN⟩ := hv
  have hx := B.exec
  have hb := B.bytes
  have hr := B.returns
  have hts : ∀ w ∈ UW, w.before _ s = true := fun w h => atoms_spec (ws := .code yn_E_append cd_E_append 6 (some .int) :: UW) B.pre w (List.mem_cons_of_mem _ h)
  have hown : s.vm.findClass "StabilitySums$Steps" = some m.cls := findClass_of_methodNamed B.named
  have hlocks := B.notSynchronized
  subst hsz
  have hD := hD0.self (sz := s.heap.size)
  generalize hAe : va_A (wS ad T t) s.heap.size = A at hD ⊢
  have hA : ∀ q : Nat, s.heap.size ≤ q → A q := fun q h => by rw [← hAe]; exact Or.inr h
  have hS : va_S A s.heap s.heap [] := va_S.rf
  have hl := lv_entry ([.ref (ad 5), .int a0, .int a1, .long a2]) (n := 6) (Nat.le_of_ble_eq_true rfl)
  rw [lg_entry_eq]
  generalize (lg_sl ([.ref (ad 5), .int a0, .int a1, .long a2]) ++ List.replicate (6 - (lg_sl ([.ref (ad 5), .int a0, .int a1, .long a2])).length) Slot.unset).toArray = ls at hl ⊢
  have hl : lv_has ls 6 [(0, .ref (ad 5)), (1, .int a0), (2, .int a1), (3, .long a2)] := hl
  generalize hQ : MQ below _ _ s 0 0 A = Q
  refine lv_aload_n hx hb de_E_append_0 rfl (lv_at hl 0 rfl) ?_
  refine va_get (D := (dC, dI)) (ci := 5) (v := .int (nI (t.2.2.2 4))) (C := "StabilitySums$Steps") (T := TB_E) (N := 4) hx hb hts ui_E hown hK hP 5 rfl rfl 3 (by decide) (hts _ uw_179) (fun _ h9 => h9) rfl de_E_append_1 ?_
  refine lv_istore (lv' := [(5, .int (nI (t.2.2.2 4))), (0, .ref (ad 5)), (1, .int a0), (2, .int a1), (3, .long a2)]) hx hb de_E_append_4 hl (by decide) rfl (fun ls hl => ?_)
  refine lv_aload_n hx hb de_E_append_6 rfl (lv_at hl 1 rfl) ?_
  refine va_get (D := (dC, dI)) (ci := 5) (v := .ref (ad 27)) (C := "StabilitySums$Steps") (T := TB_E) (N := 4) hx hb hts ui_E hown hK hP 5 rfl rfl 0 (by decide) (hts _ uw_173) (fun _ h9 => h9) rfl de_E_append_7 ?_
  refine lv_iload hx hb de_E_append_10 (lv_at hl 0 rfl) ?_
  refine lv_iload_n hx hb de_E_append_12 rfl (lv_at hl 2 rfl) ?_
  refine rw_zast (f := t.2.1 1) (j := (t.2.2.2 4)) (x := a0) hx hb hK hP hD hS 27 2 rfl rfl (by omega) (by decide) de_E_append_13 (fun H locs hP hD hS => ?_)
  have hP : va_P (dC, dI) CLS (wS ad T (sI t 1 (t.2.2.2 4) (vp_nar .boolean a0))) H := hP
  have hD : va_D A (wS ad T (sI t 1 (t.2.2.2 4) (vp_nar .boolean a0))) := hD
  refine lv_aload_n hx hb de_E_append_14 rfl (lv_at hl 1 rfl) ?_
  refine va_get (D := (dC, dI)) (ci := 5) (v := .ref (ad 28)) (C := "StabilitySums$Steps") (T := TB_E) (N := 4) hx hb hts ui_E hown hK hP 5 rfl rfl 1 (by decide) (hts _ uw_175) (fun _ h9 => h9) rfl de_E_append_15 ?_
  refine lv_iload hx hb de_E_append_18 (lv_at hl 0 rfl) ?_
  refine lv_iload_n hx hb de_E_append_20 rfl (lv_at hl 3 rfl) ?_
  refine rw_iast (f := t.2.1 2) (j := (t.2.2.2 4)) (x := a1) hx hb hK hP hD hS 28 1 rfl rfl (by omega) (by decide) de_E_append_21 (fun H locs hP hD hS => ?_)
  have hP : va_P (dC, dI) CLS (wS ad T (sI (sI t 1 (t.2.2.2 4) (vp_nar .boolean a0)) 2 (t.2.2.2 4) a1)) H := hP
  have hD : va_D A (wS ad T (sI (sI t 1 (t.2.2.2 4) (vp_nar .boolean a0)) 2 (t.2.2.2 4) a1)) := hD
  refine lv_aload_n hx hb de_E_append_22 rfl (lv_at hl 1 rfl) ?_
  refine va_get (D := (dC, dI)) (ci := 5) (v := .ref (ad 29)) (C := "StabilitySums$Steps") (T := TB_E) (N := 4) hx hb hts ui_E hown hK hP 5 rfl rfl 2 (by decide) (hts _ uw_177) (fun _ h9 => h9) rfl de_E_append_23 ?_
  refine lv_iload hx hb de_E_append_26 (lv_at hl 0 rfl) ?_
  refine lv_lload_n hx hb de_E_append_28 rfl (lv_at hl 4 rfl) ?_
  refine rw_last (f := t.1 17) (j := (t.2.2.2 4)) (x := a2) hx hb hK hP hD hS 29 0 rfl rfl (by omega) (by decide) de_E_append_29 (fun H locs hP hD hS => ?_)
  have hP : va_P (dC, dI) CLS (wS ad T (sL (sI (sI t 1 (t.2.2.2 4) (vp_nar .boolean a0)) 2 (t.2.2.2 4) a1) 17 (t.2.2.2 4) a2)) H := hP
  have hD : va_D A (wS ad T (sL (sI (sI t 1 (t.2.2.2 4) (vp_nar .boolean a0)) 2 (t.2.2.2 4) a1) 17 (t.2.2.2 4) a2)) := hD
  refine lv_aload_n hx hb de_E_append_30 rfl (lv_at hl 1 rfl) ?_
  refine lv_dup hx hb de_E_append_31 rfl ?_
  refine va_get (D := (dC, dI)) (ci := 5) (v := .int (nI (t.2.2.2 4))) (C := "StabilitySums$Steps") (T := TB_E) (N := 4) hx hb hts ui_E hown hK hP 5 rfl rfl 3 (by decide) (hts _ uw_179) (fun _ h9 => h9) rfl de_E_append_32 ?_
  refine lv_iconst (v := 1) hx hb de_E_append_35 (by decide) ?_
  refine lv_iadd hx hb de_E_append_36 ?_
  refine lv_topi (fun v_1 ev_1 => ?_)
  have ev_1 : v_1 = (nI ((t.2.2.2 4) + 1)) := ev_1.trans (nI_add (t.2.2.2 4) 1)
  subst ev_1
  refine va_put (D := (dC, dI)) (ci := 5) (v := .int (nI ((t.2.2.2 4) + 1))) (ty := .int) (C := "StabilitySums$Steps") (T := TB_E) (N := 4) hx hb hts ui_E tt_E tk_E nm_E hown hK hP hD hS 5 rfl rfl 3 (by decide) (hts _ uw_179) (fun _ h9 => h9) rfl (by decide +kernel) rfl rfl (Nat.le_of_ble_eq_true rfl) de_E_append_37 (fun H locs hP hD hS => ?_)
  have hP : va_P (dC, dI) CLS (wS ad T (sN (sL (sI (sI t 1 (t.2.2.2 4) (vp_nar .boolean a0)) 2 (t.2.2.2 4) a1) 17 (t.2.2.2 4) a2) 4 ((t.2.2.2 4) + 1))) H := hP
  have hD : va_D A (wS ad T (sN (sL (sI (sI t 1 (t.2.2.2 4) (vp_nar .boolean a0)) 2 (t.2.2.2 4) a1) 17 (t.2.2.2 4) a2) 4 ((t.2.2.2 4) + 1))) := hD
  refine lv_iload hx hb de_E_append_40 (lv_at hl 0 rfl) ?_
  have hfin : (sN (sL (sI (sI t 1 (t.2.2.2 4) (vp_nar .boolean a0)) 2 (t.2.2.2 4) a1) 17 (t.2.2.2 4) a2) 4 ((t.2.2.2 4) + 1)) = x_eapp a0 a1 a2 t := by
    rfl
  rw [hfin] at hP hD
  subst hQ
  have hpost : (nI (t.2.2.2 4)) = nI (t.2.2.2 4) := by
    rfl
  exact W.iret (v := (nI (t.2.2.2 4))) hx hb hr (fun t9 ht hW => ⟨⟨(nI (t.2.2.2 4)), (), rfl, hpost, by rw [ht]; exact hP, va_K.moved hW.alike hK, hD⟩, hS.F ht⟩) hS.2.2 de_E_append_42
set_option maxHeartbeats 4000000 in
set_option maxRecDepth 100000 in
theorem mt_T_isSlack (l : Launch) (dC : Nat → ClassId) (dI : Nat → Nat → Nat) (ad : Nat → Nat) (T : Nat → ClassId) (t : St) (i : Nat) (a1 : Int64) (hi0 : i < 4) (sz : Nat) : Met l yn_T_isSlack (.code yn_T_isSlack cd_T_isSlack 4 (some .boolean) :: UW) ({ frames := 0, cells := 0, slots := 0, locals := 0 } : Room) (va_Pc [.ref (ad 2), .int (nI i), .long a1] (Pw (dC, dI) CLS (TY T) (wS ad T t) sz)) (va_Qi (fun (r : Int32) (_ : Unit) => bz r (x_slack t i a1)) (Bw (dC, dI) CLS (TY T) (fun _ : Unit => (wS ad T t)) (va_A (wS ad T t) sz)) (va_A (wS ad T t) sz)) 0 0 (va_A (wS ad T t) sz) := by
  refine Met.ofW (cc := cd_T_isSlack) (maxL := 4) (ret := (some .boolean)) (by decide) rfl ?_
  intro p e s m args below meth c s₁ B hml hv
  obtain ⟨rfl, hsz, hP, hK, hD0, hN⟩ := hv
  have hx := B.exec
  have hb := B.bytes
  have hr := B.returns
  have hts : ∀ w ∈ UW, w.before _ s = true := fun w h => atoms_spec (ws := .code yn_T_isSlack cd_T_isSlack 4 (some .boolean) :: UW) B.pre w (List.mem_cons_of_mem _ h)
  have hown : s.vm.findClass "StabilitySums$Tanks" = some m.cls := findClass_of_methodNamed B.named
  have hlocks := B.notSynchronized
  subst hsz
  have hD := hD0.self (sz := s.heap.size)
  generalize hAe : va_A (wS ad T t) s.heap.size = A at hD ⊢
  have hA : ∀ q : Nat, s.heap.size ≤ q → A q := fun q h => by rw [← hAe]; exact Or.inr h
  have hS : va_S A s.heap s.heap [] := va_S.rf
  have hl := lv_entry ([.ref (ad 2), .int (nI i), .long a1]) (n := 4) (Nat.le_of_ble_eq_true rfl)
  rw [lg_entry_eq]
  generalize (lg_sl ([.ref (ad 2), .int (nI i), .long a1]) ++ List.replicate (4 - (lg_sl ([.ref (ad 2), .int (nI i), .long a1])).length) Slot.unset).toArray = ls at hl ⊢
  have hl : lv_has ls 4 [(0, .ref (ad 2)), (1, .int (nI i)), (2, .long a1)] := hl
  generalize hQ : MQ below _ _ s 0 0 A = Q
  refine lv_lload_n hx hb de_T_isSlack_0 rfl (lv_at hl 2 rfl) ?_
  refine lv_lconst (v := 0) hx hb de_T_isSlack_1 (by decide) ?_
  refine rw_le (tgt := 21) hx hb de_T_isSlack_2 de_T_isSlack_3 (by decide) (fun c_1 => ?_) (fun c_1 => ?_)
  · skip
    refine lv_iconst (v := 0) hx hb de_T_isSlack_21 (by decide) ?_
    subst hQ
    have hpost : bz 0 (x_slack t i a1) := by
      first | exact Or.inl ⟨rfl, by simp only [x_slack, Int64.lt_iff_toInt_lt, Int64.le_iff_toInt_le] at *; omega⟩ | exact Or.inr ⟨rfl, by simp only [x_slack, Int64.lt_iff_toInt_lt, Int64.le_iff_toInt_le] at *; omega⟩
    exact W.zret (v := 0) hx hb hr (bz_nar hpost) (fun t9 ht hW => ⟨⟨0, (), rfl, hpost, by rw [ht]; exact hP, va_K.moved hW.alike hK, hD⟩, hS.F ht⟩) hS.2.2 de_T_isSlack_22
  · skip
    refine lv_lload_n hx hb de_T_isSlack_6 rfl (lv_at hl 2 rfl) ?_
    refine lv_aload_n hx hb de_T_isSlack_7 rfl (lv_at hl 0 rfl) ?_
    refine va_get (D := (dC, dI)) (ci := 2) (v := .ref (ad 13)) (C := "StabilitySums$Tanks") (T := TB_T) (N := 9) hx hb hts ui_T hown hK hP 2 rfl rfl 0 (by decide) (hts _ uw_87) (fun _ h9 => h9) rfl de_T_isSlack_8 ?_
    refine lv_iload_n hx hb de_T_isSlack_11 rfl (lv_at hl 1 rfl) ?_
    refine rw_lald (f := t.1 4) (j := i) hx hb hK hP 13 0 rfl rfl (by omega) (by decide) de_T_isSlack_12 ?_
    refine rw_ge (tgt := 21) hx hb de_T_isSlack_13 de_T_isSlack_14 (by decide) (fun c_2 => ?_) (fun c_2 => ?_)
    · skip
      refine lv_iconst (v := 0) hx hb de_T_isSlack_21 (by decide) ?_
      subst hQ
      have hpost : bz 0 (x_slack t i a1) := by
        first | exact Or.inl ⟨rfl, by simp only [x_slack, Int64.lt_iff_toInt_lt, Int64.le_iff_toInt_le] at *; omega⟩ | exact Or.inr ⟨rfl, by simp only [x_slack, Int64.lt_iff_toInt_lt, Int64.le_iff_toInt_le] at *; omega⟩
      exact W.zret (v := 0) hx hb hr (bz_nar hpost) (fun t9 ht hW => ⟨⟨0, (), rfl, hpost, by rw [ht]; exact hP, va_K.moved hW.alike hK, hD⟩, hS.F ht⟩) hS.2.2 de_T_isSlack_22
    · skip
      refine lv_iconst (v := 1) hx hb de_T_isSlack_17 (by decide) ?_
      refine lv_goto (tgt := 22) hx hb de_T_isSlack_18 (by decide) ?_
      subst hQ
      have hpost : bz 1 (x_slack t i a1) := by
        first | exact Or.inl ⟨rfl, by simp only [x_slack, Int64.lt_iff_toInt_lt, Int64.le_iff_toInt_le] at *; omega⟩ | exact Or.inr ⟨rfl, by simp only [x_slack, Int64.lt_iff_toInt_lt, Int64.le_iff_toInt_le] at *; omega⟩
      exact W.zret (v := 1) hx hb hr (bz_nar hpost) (fun t9 ht hW => ⟨⟨1, (), rfl, hpost, by rw [ht]; exact hP, va_K.moved hW.alike hK, hD⟩, hS.F ht⟩) hS.2.2 de_T_isSlack_22
set_option maxHeartbeats 4000000 in
set_option maxRecDepth 100000 in
theorem mt_T_surfaceOf (l : Launch) (dC : Nat → ClassId) (dI : Nat → Nat → Nat) (ad : Nat → Nat) (T : Nat → ClassId) (t : St) (i : Nat) (a1 : Int64) (hi0 : i < 4) (sz : Nat) : Met l yn_T_surfaceOf (.code yn_T_surfaceOf cd_T_surfaceOf 4 (some .long) :: UW) ({ frames := 1, cells := 0, slots := 0, locals := 23 } : Room) (va_Pc [.ref (ad 2), .int (nI i), .long a1] (Pw (dC, dI) CLS (TY T) (wS ad T t) sz)) (va_Ql (fun (r : Int64) (_ : Unit) => r = x_surf t i a1) (Bw (dC, dI) CLS (TY T) (fun _ : Unit => (wS ad T t)) (va_A (wS ad T t) sz)) (va_A (wS ad T t) sz)) 0 0 (va_A (wS ad T t) sz) := by
  refine Met.ofW (cc := cd_T_surfaceOf) (maxL := 4) (ret := (some .long)) (by decide) rfl ?_
  intro p e s m args below meth c s₁ B hml hv
  obtain ⟨rfl, hsz, hP, hK, hD0, hN⟩ := hv
  have hx := B.exec
  have hb := B.bytes
  have hr := B.returns
  have hts : ∀ w ∈ UW, w.before _ s = true := fun w h => atoms_spec (ws := .code yn_T_surfaceOf cd_T_surfaceOf 4 (some .long) :: UW) B.pre w (List.mem_cons_of_mem _ h)
  have hown : s.vm.findClass "StabilitySums$Tanks" = some m.cls := findClass_of_methodNamed B.named
  have hlocks := B.notSynchronized
  subst hsz
  have hD := hD0.self (sz := s.heap.size)
  generalize hAe : va_A (wS ad T t) s.heap.size = A at hD ⊢
  have hA : ∀ q : Nat, s.heap.size ≤ q → A q := fun q h => by rw [← hAe]; exact Or.inr h
  have hS : va_S A s.heap s.heap [] := va_S.rf
  have hl := lv_entry ([.ref (ad 2), .int (nI i), .long a1]) (n := 4) (Nat.le_of_ble_eq_true rfl)
  rw [lg_entry_eq]
  generalize (lg_sl ([.ref (ad 2), .int (nI i), .long a1]) ++ List.replicate (4 - (lg_sl ([.ref (ad 2), .int (nI i), .long a1])).length) Slot.unset).toArray = ls at hl ⊢
  have hl : lv_has ls 4 [(0, .ref (ad 2)), (1, .int (nI i)), (2, .long a1)] := hl
  generalize hQ : MQ below _ _ s 0 0 A = Q
  refine lv_aload_n hx hb de_T_surfaceOf_0 rfl (lv_at hl 0 rfl) ?_
  refine lv_iload_n hx hb de_T_surfaceOf_1 rfl (lv_at hl 1 rfl) ?_
  refine lv_lload_n hx hb de_T_surfaceOf_2 rfl (lv_at hl 2 rfl) ?_
  refine cl_Vi (As := [.int (nI i), .long a1]) (rest := []) ⟨hx, hb, hml, hown, hts⟩ (mt_T_isSlack l dC dI ad T t i a1 (by omega)) (cwV 2 hts (uw_V uw_337 uw_338 uw_339 uw_29 uw_340) rfl rfl rfl (by decide +kernel) ⟨Nat.le_of_ble_eq_true rfl, Nat.le_of_ble_eq_true rfl⟩) (va_recv hK hP (ci := 2) (q0 := 2) rfl rfl) rfl hl.1 rfl (by decide) de_T_surfaceOf_3 ⟨Nat.zero_le _, Nat.zero_le _⟩ hK hN hP hD hS hA (fun r_1 _ H locs hw_1 hP hD hS => ?_)
  have hw_1 : bz r_1 (x_slack t i a1) := hw_1
  refine lv_if_eq (tgt := 18) hx hb de_T_surfaceOf_6 (by decide) (fun c_2 => ?_) (fun c_2 => ?_)
  · skip
    have c_2 := bz_f hw_1 c_2
    refine lv_lconst (v := 0) hx hb de_T_surfaceOf_18 (by decide) ?_
    subst hQ
    have hpost : 0 = x_surf t i a1 := by
      unfold x_surf; first | rw [if_pos c_2] | rw [if_neg c_2]
    exact W.lret (v := 0) hx hb hr (fun t9 ht hW => ⟨⟨0, (), rfl, hpost, by rw [ht]; exact hP, va_K.moved hW.alike hK, hD⟩, hS.F ht⟩) hS.2.2 de_T_surfaceOf_19
  · skip
    have c_2 := bz_t hw_1 c_2
    refine lv_aload_n hx hb de_T_surfaceOf_9 rfl (lv_at hl 0 rfl) ?_
    refine va_get (D := (dC, dI)) (ci := 2) (v := .ref (ad 14)) (C := "StabilitySums$Tanks") (T := TB_T) (N := 9) hx hb hts ui_T hown hK hP 2 rfl rfl 1 (by decide) (hts _ uw_89) (fun _ h9 => h9) rfl de_T_surfaceOf_10 ?_
    refine lv_iload_n hx hb de_T_surfaceOf_13 rfl (lv_at hl 1 rfl) ?_
    refine rw_lald (f := t.1 5) (j := i) hx hb hK hP 14 0 rfl rfl (by omega) (by decide) de_T_surfaceOf_14 ?_
    refine lv_goto (tgt := 19) hx hb de_T_surfaceOf_15 (by decide) ?_
    subst hQ
    have hpost : (t.1 5 i) = x_surf t i a1 := by
      unfold x_surf; first | rw [if_pos c_2] | rw [if_neg c_2]
    exact W.lret (v := (t.1 5 i)) hx hb hr (fun t9 ht hW => ⟨⟨(t.1 5 i), (), rfl, hpost, by rw [ht]; exact hP, va_K.moved hW.alike hK, hD⟩, hS.F ht⟩) hS.2.2 de_T_surfaceOf_19
set_option maxHeartbeats 4000000 in
set_option maxRecDepth 100000 in
theorem mt_T_countSlack (l : Launch) (dC : Nat → ClassId) (dI : Nat → Nat → Nat) (ad : Nat → Nat) (T : Nat → ClassId) (t : St)  (hc : t.2.2.2 1 ≤ 4) (sz : Nat) : Met l yn_T_countSlack (.code yn_T_countSlack cd_T_countSlack 3 (some .int) :: UW) ({ frames := 1, cells := 0, slots := 0, locals := 23 } : Room) (va_Pc [.ref (ad 2)] (Pw (dC, dI) CLS (TY T) (wS ad T t) sz)) (va_Qi (fun (r : Int32) (_ : Unit) => r = nI (x_cs t (t.2.2.2 1) 0 0)) (Bw (dC, dI) CLS (TY T) (fun _ : Unit => (wS ad T t)) (va_A (wS ad T t) sz)) (va_A (wS ad T t) sz)) 0 0 (va_A (wS ad T t) sz) := by
  refine Met.ofW (cc := cd_T_countSlack) (maxL := 3) (ret := (some .int)) (by decide) rfl ?_
  intro p e s m args below meth c s₁ B hml hv
  obtain ⟨rfl, hsz, hP, hK, hD0, hN⟩ := hv
  have hx := B.exec
  have hb := B.bytes
  have hr := B.returns
  have hts : ∀ w ∈ UW, w.before _ s = true := fun w h => atoms_spec (ws := .code yn_T_countSlack cd_T_countSlack 3 (some .int) :: UW) B.pre w (List.mem_cons_of_mem _ h)
  have hown : s.vm.findClass "StabilitySums$Tanks" = some m.cls := findClass_of_methodNamed B.named
  have hlocks := B.notSynchronized
  subst hsz
  have hD := hD0.self (sz := s.heap.size)
  generalize hAe : va_A (wS ad T t) s.heap.size = A at hD ⊢
  have hA : ∀ q : Nat, s.heap.size ≤ q → A q := fun q h => by rw [← hAe]; exact Or.inr h
  have hS : va_S A s.heap s.heap [] := va_S.rf
  have hl := lv_entry ([.ref (ad 2)]) (n := 3) (Nat.le_of_ble_eq_true rfl)
  rw [lg_entry_eq]
  generalize (lg_sl ([.ref (ad 2)]) ++ List.replicate (3 - (lg_sl ([.ref (ad 2)])).length) Slot.unset).toArray = ls at hl ⊢
  have hl : lv_has ls 3 [(0, .ref (ad 2))] := hl
  generalize hQ : MQ below _ _ s 0 0 A = Q
  refine lv_iconst (v := 0) hx hb de_T_countSlack_0 (by decide) ?_
  refine lv_istore_n (lv' := [(1, .int 0), (0, .ref (ad 2))]) hx hb de_T_countSlack_1 rfl hl (by decide) rfl (fun ls hl => ?_)
  refine lv_iconst (v := 0) hx hb de_T_countSlack_2 (by decide) ?_
  refine lv_istore_n (lv' := [(2, .int 0), (1, .int 0), (0, .ref (ad 2))]) hx hb de_T_countSlack_3 rfl hl (by decide) rfl (fun ls hl => ?_)
  have loop_4 : ∀ (n : Nat) (i a : Nat), (i + n = t.2.2.2 1) → (a ≤ i) → (x_cs t n i a = x_cs t (t.2.2.2 1) 0 0) → ∀ (H : Heap) (locs : List Loc) (ls : Array Slot), va_P (dC, dI) CLS (wS ad T t) H → va_D A (wS ad T t) → va_S A s.heap H locs → lv_has ls 3 [(0, .ref (ad 2)), (1, .int (nI a)), (2, .int (nI i))] → W p l e (headSpec (.code yn_T_countSlack cd_T_countSlack 3 (some .int) :: UW) ({ frames := 1, cells := 0, slots := 0, locals := 23 } : Room)).room s m ([.ref (ad 2)] : List Value).toArray below meth c H locs 0 0 Q (F0 m 4 ls []) := by
    intro n
    induction n with
    | zero =>
      intro i a hi ha hq H locs ls hP hD hS hl
      refine lv_iload_n hx hb de_T_countSlack_4 rfl (lv_at hl 2 rfl) ?_
      refine lv_aload_n hx hb de_T_countSlack_5 rfl (lv_at hl 0 rfl) ?_
      refine va_get (D := (dC, dI)) (ci := 2) (v := .int (nI (t.2.2.2 1))) (C := "StabilitySums$Tanks") (T := TB_T) (N := 9) hx hb hts ui_T hown hK hP 2 rfl rfl 8 (by decide) (hts _ uw_102) (fun _ h9 => h9) rfl de_T_countSlack_6 ?_
      refine lv_icmp_ge (tgt := 35) hx hb de_T_countSlack_9 (by decide) (fun c_1 => ?_) (fun c_1 => ?_)
      · skip
        have c_1 : (t.2.2.2 1) ≤ i := (nI_leI (a := (t.2.2.2 1)) (b := i) (by omega) (by omega)).mp c_1
        refine lv_iload_n hx hb de_T_countSlack_35 rfl (lv_at hl 1 rfl) ?_
        subst hQ
        have hpost : (nI a) = nI (x_cs t (t.2.2.2 1) 0 0) := by
          rw [← hq]; rfl
        exact W.iret (v := (nI a)) hx hb hr (fun t9 ht hW => ⟨⟨(nI a), (), rfl, hpost, by rw [ht]; exact hP, va_K.moved hW.alike hK, hD⟩, hS.F ht⟩) hS.2.2 de_T_countSlack_36
      · skip
        have c_1 : ¬ ((t.2.2.2 1) ≤ i) := fun z => c_1 ((nI_leI (a := (t.2.2.2 1)) (b := i) (by omega) (by omega)).mpr z)
        exfalso; omega
    | succ n ih =>
      intro i a hi ha hq H locs ls hP hD hS hl
      refine lv_iload_n hx hb de_T_countSlack_4 rfl (lv_at hl 2 rfl) ?_
      refine lv_aload_n hx hb de_T_countSlack_5 rfl (lv_at hl 0 rfl) ?_
      refine va_get (D := (dC, dI)) (ci := 2) (v := .int (nI (t.2.2.2 1))) (C := "StabilitySums$Tanks") (T := TB_T) (N := 9) hx hb hts ui_T hown hK hP 2 rfl rfl 8 (by decide) (hts _ uw_102) (fun _ h9 => h9) rfl de_T_countSlack_6 ?_
      refine lv_icmp_ge (tgt := 35) hx hb de_T_countSlack_9 (by decide) (fun c_2 => ?_) (fun c_2 => ?_)
      · skip
        have c_2 : (t.2.2.2 1) ≤ i := (nI_leI (a := (t.2.2.2 1)) (b := i) (by omega) (by omega)).mp c_2
        exfalso; omega
      · skip
        have c_2 : ¬ ((t.2.2.2 1) ≤ i) := fun z => c_2 ((nI_leI (a := (t.2.2.2 1)) (b := i) (by omega) (by omega)).mpr z)
        refine lv_aload_n hx hb de_T_countSlack_12 rfl (lv_at hl 0 rfl) ?_
        refine lv_iload_n hx hb de_T_countSlack_13 rfl (lv_at hl 2 rfl) ?_
        refine lv_aload_n hx hb de_T_countSlack_14 rfl (lv_at hl 0 rfl) ?_
        refine va_get (D := (dC, dI)) (ci := 2) (v := .ref (ad 18)) (C := "StabilitySums$Tanks") (T := TB_T) (N := 9) hx hb hts ui_T hown hK hP 2 rfl rfl 5 (by decide) (hts _ uw_96) (fun _ h9 => h9) rfl de_T_countSlack_15 ?_
        refine lv_iload_n hx hb de_T_countSlack_18 rfl (lv_at hl 2 rfl) ?_
        refine rw_lald (f := t.1 9) (j := i) hx hb hK hP 18 0 rfl rfl (by omega) (by decide) de_T_countSlack_19 ?_
        refine cl_Vi (As := [.int (nI i), .long (t.1 9 i)]) (rest := []) ⟨hx, hb, hml, hown, hts⟩ (mt_T_isSlack l dC dI ad T t i (t.1 9 i) (by omega)) (cwV 2 hts (uw_V uw_337 uw_338 uw_339 uw_29 uw_340) rfl rfl rfl (by decide +kernel) ⟨Nat.le_of_ble_eq_true rfl, Nat.le_of_ble_eq_true rfl⟩) (va_recv hK hP (ci := 2) (q0 := 2) rfl rfl) rfl hl.1 rfl (by decide) de_T_countSlack_20 ⟨Nat.zero_le _, Nat.zero_le _⟩ hK hN hP hD hS hA (fun r_3 _ H locs hw_3 hP hD hS => ?_)
        have hw_3 : bz r_3 (x_slack t i (t.1 9 i)) := hw_3
        refine lv_if_eq (tgt := 29) hx hb de_T_countSlack_23 (by decide) (fun c_4 => ?_) (fun c_4 => ?_)
        · skip
          have c_4 := bz_f hw_3 c_4
          refine lv_iinc (v := (nI (i + 1))) (lv' := [(2, .int (nI (i + 1))), (0, .ref (ad 2)), (1, .int (nI a))]) hx hb de_T_countSlack_29 hl (k := 2) rfl (nI_1 i) (by decide) rfl (fun ls hl => ?_)
          refine lv_goto (tgt := 4) hx hb de_T_countSlack_32 (by decide) ?_
          exact ih (i + 1) a (by omega) (by omega) (by rw [← hq, x_cs]; first | rw [if_pos c_4] | rw [if_neg c_4]) H locs ls hP hD hS (lv_sub hl [1, 2, 0] rfl)
        · skip
          have c_4 := bz_t hw_3 c_4
          refine lv_iinc (v := (nI (a + 1))) (lv' := [(1, .int (nI (a + 1))), (0, .ref (ad 2)), (2, .int (nI i))]) hx hb de_T_countSlack_26 hl (k := 1) rfl (nI_1 a) (by decide) rfl (fun ls hl => ?_)
          refine lv_iinc (v := (nI (i + 1))) (lv' := [(2, .int (nI (i + 1))), (1, .int (nI (a + 1))), (0, .ref (ad 2))]) hx hb de_T_countSlack_29 hl (k := 2) rfl (nI_1 i) (by decide) rfl (fun ls hl => ?_)
          refine lv_goto (tgt := 4) hx hb de_T_countSlack_32 (by decide) ?_
          exact ih (i + 1) (a + 1) (by omega) (by omega) (by rw [← hq, x_cs]; first | rw [if_pos c_4] | rw [if_neg c_4]) H locs ls hP hD hS (lv_sub hl [2, 1, 0] rfl)
  exact loop_4 (t.2.2.2 1) 0 0 (by omega) (by omega) rfl _ _ ls hP hD hS (lv_sub hl [2, 1, 0] rfl)
set_option maxHeartbeats 4000000 in
set_option maxRecDepth 100000 in
theorem mt_T_workOfTried (l : Launch) (dC : Nat → ClassId) (dI : Nat → Nat → Nat) (ad : Nat → Nat) (T : Nat → ClassId) (t : St)  (hc : t.2.2.2 1 ≤ 4) (sz : Nat) : Met l yn_T_workOfTried (.code yn_T_workOfTried cd_T_workOfTried 4 (some .long) :: UW) ({ frames := 1, cells := 0, slots := 0, locals := 21 } : Room) (va_Pc [.ref (ad 2)] (Pw (dC, dI) CLS (TY T) (wS ad T t) sz)) (va_Ql (fun (r : Int64) (_ : Unit) => r = x_wk t (t.2.2.2 1) 0 0) (Bw (dC, dI) CLS (TY T) (fun _ : Unit => (wS ad T t)) (va_A (wS ad T t) sz)) (va_A (wS ad T t) sz)) 0 0 (va_A (wS ad T t) sz) := by
  refine Met.ofW (cc := cd_T_workOfTried) (maxL := 4) (ret := (some .long)) (by decide) rfl ?_
  intro p e s m args below meth c s₁ B hml hv
  obtain ⟨rfl, hsz, hP, hK, hD0, hN⟩ := hv
  have hx := B.exec
  have hb := B.bytes
  have hr := B.returns
  have hts : ∀ w ∈ UW, w.before _ s = true := fun w h => atoms_spec (ws := .code yn_T_workOfTried cd_T_workOfTried 4 (some .long) :: UW) B.pre w (List.mem_cons_of_mem _ h)
  have hown : s.vm.findClass "StabilitySums$Tanks" = some m.cls := findClass_of_methodNamed B.named
  have hlocks := B.notSynchronized
  subst hsz
  have hD := hD0.self (sz := s.heap.size)
  generalize hAe : va_A (wS ad T t) s.heap.size = A at hD ⊢
  have hA : ∀ q : Nat, s.heap.size ≤ q → A q := fun q h => by rw [← hAe]; exact Or.inr h
  have hS : va_S A s.heap s.heap [] := va_S.rf
  have hl := lv_entry ([.ref (ad 2)]) (n := 4) (Nat.le_of_ble_eq_true rfl)
  rw [lg_entry_eq]
  generalize (lg_sl ([.ref (ad 2)]) ++ List.replicate (4 - (lg_sl ([.ref (ad 2)])).length) Slot.unset).toArray = ls at hl ⊢
  have hl : lv_has ls 4 [(0, .ref (ad 2))] := hl
  generalize hQ : MQ below _ _ s 0 0 A = Q
  refine lv_lconst (v := 0) hx hb de_T_workOfTried_0 (by decide) ?_
  refine lv_lstore_n (lv' := [(1, .long 0), (0, .ref (ad 2))]) hx hb de_T_workOfTried_1 rfl hl (by decide) rfl (fun ls hl => ?_)
  refine lv_iconst (v := 0) hx hb de_T_workOfTried_2 (by decide) ?_
  refine lv_istore_n (lv' := [(3, .int 0), (1, .long 0), (0, .ref (ad 2))]) hx hb de_T_workOfTried_3 rfl hl (by decide) rfl (fun ls hl => ?_)
  have loop_4 : ∀ (n : Nat) (i : Nat) (a : Int64), (i + n = t.2.2.2 1) → (x_wk t n i a = x_wk t (t.2.2.2 1) 0 0) → ∀ (H : Heap) (locs : List Loc) (ls : Array Slot), va_P (dC, dI) CLS (wS ad T t) H → va_D A (wS ad T t) → va_S A s.heap H locs → lv_has ls 4 [(0, .ref (ad 2)), (1, .long a), (3, .int (nI i))] → W p l e (headSpec (.code yn_T_workOfTried cd_T_workOfTried 4 (some .long) :: UW) ({ frames := 1, cells := 0, slots := 0, locals := 21 } : Room)).room s m ([.ref (ad 2)] : List Value).toArray below meth c H locs 0 0 Q (F0 m 4 ls []) := by
    intro n
    induction n with
    | zero =>
      intro i a hi hq H locs ls hP hD hS hl
      refine lv_iload_n hx hb de_T_workOfTried_4 rfl (lv_at hl 2 rfl) ?_
      refine lv_aload_n hx hb de_T_workOfTried_5 rfl (lv_at hl 0 rfl) ?_
      refine va_get (D := (dC, dI)) (ci := 2) (v := .int (nI (t.2.2.2 1))) (C := "StabilitySums$Tanks") (T := TB_T) (N := 9) hx hb hts ui_T hown hK hP 2 rfl rfl 8 (by decide) (hts _ uw_102) (fun _ h9 => h9) rfl de_T_workOfTried_6 ?_
      refine lv_icmp_ge (tgt := 37) hx hb de_T_workOfTried_9 (by decide) (fun c_1 => ?_) (fun c_1 => ?_)
      · skip
        have c_1 : (t.2.2.2 1) ≤ i := (nI_leI (a := (t.2.2.2 1)) (b := i) (by omega) (by omega)).mp c_1
        refine lv_lload_n hx hb de_T_workOfTried_37 rfl (lv_at hl 1 rfl) ?_
        subst hQ
        have hpost : a = x_wk t (t.2.2.2 1) 0 0 := by
          rw [← hq]; rfl
        exact W.lret (v := a) hx hb hr (fun t9 ht hW => ⟨⟨a, (), rfl, hpost, by rw [ht]; exact hP, va_K.moved hW.alike hK, hD⟩, hS.F ht⟩) hS.2.2 de_T_workOfTried_38
      · skip
        have c_1 : ¬ ((t.2.2.2 1) ≤ i) := fun z => c_1 ((nI_leI (a := (t.2.2.2 1)) (b := i) (by omega) (by omega)).mpr z)
        exfalso; omega
    | succ n ih =>
      intro i a hi hq H locs ls hP hD hS hl
      refine lv_iload_n hx hb de_T_workOfTried_4 rfl (lv_at hl 2 rfl) ?_
      refine lv_aload_n hx hb de_T_workOfTried_5 rfl (lv_at hl 0 rfl) ?_
      refine va_get (D := (dC, dI)) (ci := 2) (v := .int (nI (t.2.2.2 1))) (C := "StabilitySums$Tanks") (T := TB_T) (N := 9) hx hb hts ui_T hown hK hP 2 rfl rfl 8 (by decide) (hts _ uw_102) (fun _ h9 => h9) rfl de_T_workOfTried_6 ?_
      refine lv_icmp_ge (tgt := 37) hx hb de_T_workOfTried_9 (by decide) (fun c_2 => ?_) (fun c_2 => ?_)
      · skip
        have c_2 : (t.2.2.2 1) ≤ i := (nI_leI (a := (t.2.2.2 1)) (b := i) (by omega) (by omega)).mp c_2
        exfalso; omega
      · skip
        have c_2 : ¬ ((t.2.2.2 1) ≤ i) := fun z => c_2 ((nI_leI (a := (t.2.2.2 1)) (b := i) (by omega) (by omega)).mpr z)
        refine lv_lload_n hx hb de_T_workOfTried_12 rfl (lv_at hl 1 rfl) ?_
        refine lv_aload_n hx hb de_T_workOfTried_13 rfl (lv_at hl 0 rfl) ?_
        refine va_get (D := (dC, dI)) (ci := 2) (v := .ref (ad 19)) (C := "StabilitySums$Tanks") (T := TB_T) (N := 9) hx hb hts ui_T hown hK hP 2 rfl rfl 6 (by decide) (hts _ uw_98) (fun _ h9 => h9) rfl de_T_workOfTried_14 ?_
        refine lv_iload_n hx hb de_T_workOfTried_17 rfl (lv_at hl 2 rfl) ?_
        refine rw_lald (f := t.1 10) (j := i) hx hb hK hP 19 0 rfl rfl (by omega) (by decide) de_T_workOfTried_18 ?_
        refine lv_aload_n hx hb de_T_workOfTried_19 rfl (lv_at hl 0 rfl) ?_
        refine va_get (D := (dC, dI)) (ci := 2) (v := .ref (ad 18)) (C := "StabilitySums$Tanks") (T := TB_T) (N := 9) hx hb hts ui_T hown hK hP 2 rfl rfl 5 (by decide) (hts _ uw_96) (fun _ h9 => h9) rfl de_T_workOfTried_20 ?_
        refine lv_iload_n hx hb de_T_workOfTried_23 rfl (lv_at hl 2 rfl) ?_
        refine rw_lald (f := t.1 9) (j := i) hx hb hK hP 18 0 rfl rfl (by omega) (by decide) de_T_workOfTried_24 ?_
        refine lv_lsub hx hb de_T_workOfTried_25 ?_
        refine lv_topl (fun v_3 ev_3 => ?_)
        have ev_3 : v_3 = (t.1 10 i) - (t.1 9 i) := ev_3
        refine va_mabs_long hx hb (hml.trans hl.1.symm) hown (hts _ uw_412) (hts _ uw_413) (hts _ uw_43) (hts _ uw_414) (Nat.le_of_ble_eq_true rfl) (Nat.le_of_ble_eq_true rfl) (Nat.zero_le _) (Nat.zero_le _) de_T_workOfTried_26 ?_
        refine lv_topl (fun v_4 ev_4 => ?_)
        have ev_4 : v_4 = (if 0 < v_3 then v_3 else -v_3) := ev_4
        refine lv_ladd hx hb de_T_workOfTried_29 ?_
        refine lv_topl (fun v_5 ev_5 => ?_)
        have ev_5 : v_5 = a + v_4 := ev_5
        refine lv_lstore_n (lv' := [(1, .long v_5), (0, .ref (ad 2)), (3, .int (nI i))]) hx hb de_T_workOfTried_30 rfl hl (by decide) rfl (fun ls hl => ?_)
        refine lv_iinc (v := (nI (i + 1))) (lv' := [(3, .int (nI (i + 1))), (1, .long v_5), (0, .ref (ad 2))]) hx hb de_T_workOfTried_31 hl (k := 2) rfl (nI_1 i) (by decide) rfl (fun ls hl => ?_)
        refine lv_goto (tgt := 4) hx hb de_T_workOfTried_34 (by decide) ?_
        exact ih (i + 1) v_5 (by omega) (by rw [← hq, x_wk]; subst_vars; rfl) H locs ls hP hD hS (lv_sub hl [2, 1, 0] rfl)
  exact loop_4 (t.2.2.2 1) 0 0 (by omega) rfl _ _ ls hP hD hS (lv_sub hl [2, 1, 0] rfl)
set_option maxHeartbeats 4000000 in
set_option maxRecDepth 100000 in
theorem mt_T_keepTried (l : Launch) (dC : Nat → ClassId) (dI : Nat → Nat → Nat) (ad : Nat → Nat) (T : Nat → ClassId) (t : St)  (hc : t.2.2.2 1 ≤ 4) (sz : Nat) : Met l yn_T_keepTried (.code yn_T_keepTried cd_T_keepTried 2 none :: UW) ({ frames := 0, cells := 0, slots := 0, locals := 0 } : Room) (va_Pc [.ref (ad 2)] (Pw (dC, dI) CLS (TY T) (wS ad T t) sz)) (va_Qv (fun _ : Unit => True) (Bw (dC, dI) CLS (TY T) (fun _ : Unit => (wS ad T (x_kt (t.2.2.2 1) 0 t))) (va_A (wS ad T t) sz)) (va_A (wS ad T t) sz)) 0 0 (va_A (wS ad T t) sz) := by
  refine Met.ofW (cc := cd_T_keepTried) (maxL := 2) (ret := none) (by decide) rfl ?_
  intro p e s m args below meth c s₁ B hml hv
  obtain ⟨rfl, hsz, hP, hK, hD0, hN⟩ := hv
  have hx := B.exec
  have hb := B.bytes
  have hr := B.returns
  have hts : ∀ w ∈ UW, w.before _ s = true := fun w h => atoms_spec (ws := .code yn_T_keepTried cd_T_keepTried 2 none :: UW) B.pre w (List.mem_cons_of_mem _ h)
  have hown : s.vm.findClass "StabilitySums$Tanks" = some m.cls := findClass_of_methodNamed B.named
  have hlocks := B.notSynchronized
  subst hsz
  have hD := hD0.self (sz := s.heap.size)
  generalize hAe : va_A (wS ad T t) s.heap.size = A at hD ⊢
  have hA : ∀ q : Nat, s.heap.size ≤ q → A q := fun q h => by rw [← hAe]; exact Or.inr h
  have hS : va_S A s.heap s.heap [] := va_S.rf
  have hl := lv_entry ([.ref (ad 2)]) (n := 2) (Nat.le_of_ble_eq_true rfl)
  rw [lg_entry_eq]
  generalize (lg_sl ([.ref (ad 2)]) ++ List.replicate (2 - (lg_sl ([.ref (ad 2)])).length) Slot.unset).toArray = ls at hl ⊢
  have hl : lv_has ls 2 [(0, .ref (ad 2))] := hl
  generalize hQ : MQ below _ _ s 0 0 A = Q
  refine lv_iconst (v := 0) hx hb de_T_keepTried_0 (by decide) ?_
  refine lv_istore_n (lv' := [(1, .int 0), (0, .ref (ad 2))]) hx hb de_T_keepTried_1 rfl hl (by decide) rfl (fun ls hl => ?_)
  have loop_2 : ∀ (n : Nat) (i : Nat) (t1 : St), (i + n = t.2.2.2 1) → (t1.2.2.2 1 = t.2.2.2 1) → (x_kt n i t1 = x_kt (t.2.2.2 1) 0 t) → ∀ (H : Heap) (locs : List Loc) (ls : Array Slot), va_P (dC, dI) CLS (wS ad T t1) H → va_D A (wS ad T t1) → va_S A s.heap H locs → lv_has ls 2 [(0, .ref (ad 2)), (1, .int (nI i))] → W p l e (headSpec (.code yn_T_keepTried cd_T_keepTried 2 none :: UW) ({ frames := 0, cells := 0, slots := 0, locals := 0 } : Room)).room s m ([.ref (ad 2)] : List Value).toArray below meth c H locs 0 0 Q (F0 m 2 ls []) := by
    intro n
    induction n with
    | zero =>
      intro i t1 hi hk hq H locs ls hP hD hS hl
      refine lv_iload_n hx hb de_T_keepTried_2 rfl (lv_at hl 1 rfl) ?_
      refine lv_aload_n hx hb de_T_keepTried_3 rfl (lv_at hl 0 rfl) ?_
      refine va_get (D := (dC, dI)) (ci := 2) (v := .int (nI (t1.2.2.2 1))) (C := "StabilitySums$Tanks") (T := TB_T) (N := 9) hx hb hts ui_T hown hK hP 2 rfl rfl 8 (by decide) (hts _ uw_102) (fun _ h9 => h9) rfl de_T_keepTried_4 ?_
      refine lv_icmp_ge (tgt := 28) hx hb de_T_keepTried_7 (by decide) (fun c_1 => ?_) (fun c_1 => ?_)
      · skip
        have c_1 : (t1.2.2.2 1) ≤ i := (nI_leI (a := (t1.2.2.2 1)) (b := i) (by omega) (by omega)).mp c_1
        have hfin : t1 = x_kt (t.2.2.2 1) 0 t := by
          exact hq
        rw [hfin] at hP hD
        subst hQ
        exact W.vret hx hb hr (fun t9 ht hW => ⟨⟨(), rfl, trivial, by rw [ht]; exact hP, va_K.moved hW.alike hK, hD⟩, hS.F ht⟩) hS.2.2 de_T_keepTried_28
      · skip
        have c_1 : ¬ ((t1.2.2.2 1) ≤ i) := fun z => c_1 ((nI_leI (a := (t1.2.2.2 1)) (b := i) (by omega) (by omega)).mpr z)
        exfalso; omega
    | succ n ih =>
      intro i t1 hi hk hq H locs ls hP hD hS hl
      refine lv_iload_n hx hb de_T_keepTried_2 rfl (lv_at hl 1 rfl) ?_
      refine lv_aload_n hx hb de_T_keepTried_3 rfl (lv_at hl 0 rfl) ?_
      refine va_get (D := (dC, dI)) (ci := 2) (v := .int (nI (t1.2.2.2 1))) (C := "StabilitySums$Tanks") (T := TB_T) (N := 9) hx hb hts ui_T hown hK hP 2 rfl rfl 8 (by decide) (hts _ uw_102) (fun _ h9 => h9) rfl de_T_keepTried_4 ?_
      refine lv_icmp_ge (tgt := 28) hx hb de_T_keepTried_7 (by decide) (fun c_2 => ?_) (fun c_2 => ?_)
      · skip
        have c_2 : (t1.2.2.2 1) ≤ i := (nI_leI (a := (t1.2.2.2 1)) (b := i) (by omega) (by omega)).mp c_2
        exfalso; omega
      · skip
        have c_2 : ¬ ((t1.2.2.2 1) ≤ i) := fun z => c_2 ((nI_leI (a := (t1.2.2.2 1)) (b := i) (by omega) (by omega)).mpr z)
        refine lv_aload_n hx hb de_T_keepTried_10 rfl (lv_at hl 0 rfl) ?_
        refine va_get (D := (dC, dI)) (ci := 2) (v := .ref (ad 20)) (C := "StabilitySums$Tanks") (T := TB_T) (N := 9) hx hb hts ui_T hown hK hP 2 rfl rfl 7 (by decide) (hts _ uw_100) (fun _ h9 => h9) rfl de_T_keepTried_11 ?_
        refine lv_iload_n hx hb de_T_keepTried_14 rfl (lv_at hl 1 rfl) ?_
        refine lv_aload_n hx hb de_T_keepTried_15 rfl (lv_at hl 0 rfl) ?_
        refine va_get (D := (dC, dI)) (ci := 2) (v := .ref (ad 19)) (C := "StabilitySums$Tanks") (T := TB_T) (N := 9) hx hb hts ui_T hown hK hP 2 rfl rfl 6 (by decide) (hts _ uw_98) (fun _ h9 => h9) rfl de_T_keepTried_16 ?_
        refine lv_iload_n hx hb de_T_keepTried_19 rfl (lv_at hl 1 rfl) ?_
        refine rw_lald (f := t1.1 10) (j := i) hx hb hK hP 19 0 rfl rfl (by omega) (by decide) de_T_keepTried_20 ?_
        refine rw_last (f := t1.1 11) (j := i) (x := (t1.1 10 i)) hx hb hK hP hD hS 20 0 rfl rfl (by omega) (by decide) de_T_keepTried_21 (fun H locs hP hD hS => ?_)
        have hP : va_P (dC, dI) CLS (wS ad T (sL t1 11 i (t1.1 10 i))) H := hP
        have hD : va_D A (wS ad T (sL t1 11 i (t1.1 10 i))) := hD
        refine lv_iinc (v := (nI (i + 1))) (lv' := [(1, .int (nI (i + 1))), (0, .ref (ad 2))]) hx hb de_T_keepTried_22 hl (k := 1) rfl (nI_1 i) (by decide) rfl (fun ls hl => ?_)
        refine lv_goto (tgt := 2) hx hb de_T_keepTried_25 (by decide) ?_
        exact ih (i + 1) (sL t1 11 i (t1.1 10 i)) (by omega) hk hq H locs ls hP hD hS (lv_sub hl [1, 0] rfl)
  exact loop_2 (t.2.2.2 1) 0 t (by omega) rfl rfl _ _ ls hP hD hS (lv_sub hl [1, 0] rfl)
set_option maxHeartbeats 4000000 in
set_option maxRecDepth 100000 in
theorem mt_B_lastDisplacement (l : Launch) (dC : Nat → ClassId) (dI : Nat → Nat → Nat) (ad : Nat → Nat) (T : Nat → ClassId) (t : St)  (hc : t.2.2.2 2 ≤ 12) (sz : Nat) : Met l yn_B_lastDisplacement (.code yn_B_lastDisplacement cd_B_lastDisplacement 1 (some .long) :: UW) ({ frames := 0, cells := 0, slots := 0, locals := 0 } : Room) (va_Pc [.ref (ad 3)] (Pw (dC, dI) CLS (TY T) (wS ad T t) sz)) (va_Ql (fun (r : Int64) (_ : Unit) => r = x_last t) (Bw (dC, dI) CLS (TY T) (fun _ : Unit => (wS ad T t)) (va_A (wS ad T t) sz)) (va_A (wS ad T t) sz)) 0 0 (va_A (wS ad T t) sz) := by
  refine Met.ofW (cc := cd_B_lastDisplacement) (maxL := 1) (ret := (some .long)) (by decide) rfl ?_
  intro p e s m args below meth c s₁ B hml hv
  obtain ⟨rfl, hsz, hP, hK, hD0, hN⟩ := hv
  have hx := B.exec
  have hb := B.bytes
  have hr := B.returns
  have hts : ∀ w ∈ UW, w.before _ s = true := fun w h => atoms_spec (ws := .code yn_B_lastDisplacement cd_B_lastDisplacement 1 (some .long) :: UW) B.pre w (List.mem_cons_of_mem _ h)
  have hown : s.vm.findClass "StabilitySums$Table" = some m.cls := findClass_of_methodNamed B.named
  have hlocks := B.notSynchronized
  subst hsz
  have hD := hD0.self (sz := s.heap.size)
  generalize hAe : va_A (wS ad T t) s.heap.size = A at hD ⊢
  have hA : ∀ q : Nat, s.heap.size ≤ q → A q := fun q h => by rw [← hAe]; exact Or.inr h
  have hS : va_S A s.heap s.heap [] := va_S.rf
  have hl := lv_entry ([.ref (ad 3)]) (n := 1) (Nat.le_of_ble_eq_true rfl)
  rw [lg_entry_eq]
  generalize (lg_sl ([.ref (ad 3)]) ++ List.replicate (1 - (lg_sl ([.ref (ad 3)])).length) Slot.unset).toArray = ls at hl ⊢
  have hl : lv_has ls 1 [(0, .ref (ad 3))] := hl
  generalize hQ : MQ below _ _ s 0 0 A = Q
  refine lv_aload_n hx hb de_B_lastDisplacement_0 rfl (lv_at hl 0 rfl) ?_
  refine va_get (D := (dC, dI)) (ci := 3) (v := .int (nI (t.2.2.2 2))) (C := "StabilitySums$Table") (T := TB_B) (N := 4) hx hb hts ui_B hown hK hP 3 rfl rfl 3 (by decide) (hts _ uw_134) (fun _ h9 => h9) rfl de_B_lastDisplacement_1 ?_
  refine lv_if_ne (tgt := 11) hx hb de_B_lastDisplacement_4 (by decide) (fun c_1 => ?_) (fun c_1 => ?_)
  · skip
    have c_1 : ¬ (t.2.2.2 2) = 0 := fun z => c_1 ((nz0 (by omega)).mpr z)
    refine lv_aload_n hx hb de_B_lastDisplacement_11 rfl (lv_at hl 0 rfl) ?_
    refine va_get (D := (dC, dI)) (ci := 3) (v := .ref (ad 21)) (C := "StabilitySums$Table") (T := TB_B) (N := 4) hx hb hts ui_B hown hK hP 3 rfl rfl 0 (by decide) (hts _ uw_129) (fun _ h9 => h9) rfl de_B_lastDisplacement_12 ?_
    refine lv_aload_n hx hb de_B_lastDisplacement_15 rfl (lv_at hl 0 rfl) ?_
    refine va_get (D := (dC, dI)) (ci := 3) (v := .int (nI (t.2.2.2 2))) (C := "StabilitySums$Table") (T := TB_B) (N := 4) hx hb hts ui_B hown hK hP 3 rfl rfl 3 (by decide) (hts _ uw_134) (fun _ h9 => h9) rfl de_B_lastDisplacement_16 ?_
    refine lv_iconst (v := 1) hx hb de_B_lastDisplacement_19 (by decide) ?_
    refine lv_isub hx hb de_B_lastDisplacement_20 ?_
    refine lv_topi (fun v_2 ev_2 => ?_)
    have ev_2 : v_2 = (nI ((t.2.2.2 2) - 1)) := ev_2.trans (pk_sub (a := (t.2.2.2 2)) (b := 1) (by omega))
    subst ev_2
    refine rw_lald (f := t.1 12) (j := ((t.2.2.2 2) - 1)) hx hb hK hP 21 0 rfl rfl (by omega) (by decide) de_B_lastDisplacement_21 ?_
    subst hQ
    have hpost : (t.1 12 ((t.2.2.2 2) - 1)) = x_last t := by
      unfold x_last; first | rw [if_pos c_1] | rw [if_neg c_1]
    exact W.lret (v := (t.1 12 ((t.2.2.2 2) - 1))) hx hb hr (fun t9 ht hW => ⟨⟨(t.1 12 ((t.2.2.2 2) - 1)), (), rfl, hpost, by rw [ht]; exact hP, va_K.moved hW.alike hK, hD⟩, hS.F ht⟩) hS.2.2 de_B_lastDisplacement_22
  · skip
    have c_1 : (t.2.2.2 2) = 0 := (nz0 (by omega)).mp c_1
    refine lv_lconst (v := 0) hx hb de_B_lastDisplacement_7 (by decide) ?_
    refine lv_goto (tgt := 22) hx hb de_B_lastDisplacement_8 (by decide) ?_
    subst hQ
    have hpost : 0 = x_last t := by
      unfold x_last; first | rw [if_pos c_1] | rw [if_neg c_1]
    exact W.lret (v := 0) hx hb hr (fun t9 ht hW => ⟨⟨0, (), rfl, hpost, by rw [ht]; exact hP, va_K.moved hW.alike hK, hD⟩, hS.F ht⟩) hS.2.2 de_B_lastDisplacement_22
set_option maxHeartbeats 4000000 in
set_option maxRecDepth 100000 in
theorem mt_F_put (l : Launch) (dC : Nat → ClassId) (dI : Nat → Nat → Nat) (ad : Nat → Nat) (T : Nat → ClassId) (t : St) (a0 : Int64) (a1 : Int64)  (sz : Nat) : Met l yn_F_put (.code yn_F_put cd_F_put 5 none :: UW) ({ frames := 0, cells := 0, slots := 0, locals := 0 } : Room) (va_Pc [.ref (ad 8), .long a0, .long a1] (Pw (dC, dI) CLS (TY T) (wS ad T t) sz)) (va_Qv (fun _ : Unit => True) (Bw (dC, dI) CLS (TY T) (fun _ : Unit => (wS ad T (x_put a0 a1 t))) (va_A (wS ad T t) sz)) (va_A (wS ad T t) sz)) 0 0 (va_A (wS ad T t) sz) := by
  refine Met.ofW (cc := cd_F_put) (maxL := 5) (ret := none) (by decide) rfl ?_
  intro p e s m args below meth c s₁ B hml hv
  obtain ⟨rfl, hsz, hP, hK, hD0, hN⟩ := hv
  have hx := B.exec
  have hb := B.bytes
  have hr := B.returns
  have hts : ∀ w ∈ UW, w.before _ s = true := fun w h => atoms_spec (ws := .code yn_F_put cd_F_put 5 none :: UW) B.pre w (List.mem_cons_of_mem _ h)
  have hown : s.vm.findClass "StabilitySums$Fraction" = some m.cls := findClass_of_methodNamed B.named
  have hlocks := B.notSynchronized
  subst hsz
  have hD := hD0.self (sz := s.heap.size)
  generalize hAe : va_A (wS ad T t) s.heap.size = A at hD ⊢
  have hA : ∀ q : Nat, s.heap.size ≤ q → A q := fun q h => by rw [← hAe]; exact Or.inr h
  have hS : va_S A s.heap s.heap [] := va_S.rf
  have hl := lv_entry ([.ref (ad 8), .long a0, .long a1]) (n := 5) (Nat.le_of_ble_eq_true rfl)
  rw [lg_entry_eq]
  generalize (lg_sl ([.ref (ad 8), .long a0, .long a1]) ++ List.replicate (5 - (lg_sl ([.ref (ad 8), .long a0, .long a1])).length) Slot.unset).toArray = ls at hl ⊢
  have hl : lv_has ls 5 [(0, .ref (ad 8)), (1, .long a0), (3, .long a1)] := hl
  generalize hQ : MQ below _ _ s 0 0 A = Q
  refine lv_lload_n hx hb de_F_put_0 rfl (lv_at hl 2 rfl) ?_
  refine lv_lconst (v := 0) hx hb de_F_put_1 (by decide) ?_
  refine rw_ne (tgt := 17) hx hb de_F_put_2 de_F_put_3 (by decide) (fun c_1 => ?_) (fun c_1 => ?_)
  · skip
    refine lv_aload_n hx hb de_F_put_17 rfl (lv_at hl 0 rfl) ?_
    refine lv_lload_n hx hb de_F_put_18 rfl (lv_at hl 2 rfl) ?_
    refine lv_lconst (v := 0) hx hb de_F_put_19 (by decide) ?_
    refine rw_ge (tgt := 29) hx hb de_F_put_20 de_F_put_21 (by decide) (fun c_2 => ?_) (fun c_2 => ?_)
    · skip
      refine lv_lload_n hx hb de_F_put_29 rfl (lv_at hl 1 rfl) ?_
      refine va_put (D := (dC, dI)) (ci := 8) (v := .long a0) (ty := .long) (C := "StabilitySums$Fraction") (T := TB_F) (N := 2) hx hb hts ui_F tt_F tk_F nm_F hown hK hP hD hS 8 rfl rfl 0 (by decide) (hts _ uw_246) (fun _ h9 => h9) rfl (by decide +kernel) rfl rfl (Nat.le_of_ble_eq_true rfl) de_F_put_30 (fun H locs hP hD hS => ?_)
      have hP : va_P (dC, dI) CLS (wS ad T (sF t 7 a0)) H := hP
      have hD : va_D A (wS ad T (sF t 7 a0)) := hD
      refine lv_aload_n hx hb de_F_put_33 rfl (lv_at hl 0 rfl) ?_
      refine lv_lload_n hx hb de_F_put_34 rfl (lv_at hl 2 rfl) ?_
      refine lv_lconst (v := 0) hx hb de_F_put_35 (by decide) ?_
      refine rw_ge (tgt := 45) hx hb de_F_put_36 de_F_put_37 (by decide) (fun c_3 => ?_) (fun c_3 => ?_)
      · skip
        refine lv_lload_n hx hb de_F_put_45 rfl (lv_at hl 2 rfl) ?_
        refine va_put (D := (dC, dI)) (ci := 8) (v := .long a1) (ty := .long) (C := "StabilitySums$Fraction") (T := TB_F) (N := 2) hx hb hts ui_F tt_F tk_F nm_F hown hK hP hD hS 8 rfl rfl 1 (by decide) (hts _ uw_248) (fun _ h9 => h9) rfl (by decide +kernel) rfl rfl (Nat.le_of_ble_eq_true rfl) de_F_put_46 (fun H locs hP hD hS => ?_)
        have hP : va_P (dC, dI) CLS (wS ad T (sF (sF t 7 a0) 8 a1)) H := hP
        have hD : va_D A (wS ad T (sF (sF t 7 a0) 8 a1)) := hD
        have hfin : (sF (sF t 7 a0) 8 a1) = x_put a0 a1 t := by
          first | contradiction | (simp only [x_put, c_1, c_2, c_3, ↓reduceIte]; done) | (subst_vars; simp only [x_put, c_1, c_2, c_3, ↓reduceIte])
        rw [hfin] at hP hD
        subst hQ
        exact W.vret hx hb hr (fun t9 ht hW => ⟨⟨(), rfl, trivial, by rw [ht]; exact hP, va_K.moved hW.alike hK, hD⟩, hS.F ht⟩) hS.2.2 de_F_put_49
      · skip
        refine lv_lload_n hx hb de_F_put_40 rfl (lv_at hl 2 rfl) ?_
        refine lv_lneg hx hb de_F_put_41 ?_
        refine lv_topl (fun v_4 ev_4 => ?_)
        have ev_4 : v_4 = -a1 := ev_4
        refine lv_goto (tgt := 46) hx hb de_F_put_42 (by decide) ?_
        refine va_put (D := (dC, dI)) (ci := 8) (v := .long v_4) (ty := .long) (C := "StabilitySums$Fraction") (T := TB_F) (N := 2) hx hb hts ui_F tt_F tk_F nm_F hown hK hP hD hS 8 rfl rfl 1 (by decide) (hts _ uw_248) (fun _ h9 => h9) rfl (by decide +kernel) rfl rfl (Nat.le_of_ble_eq_true rfl) de_F_put_46 (fun H locs hP hD hS => ?_)
        have hP : va_P (dC, dI) CLS (wS ad T (sF (sF t 7 a0) 8 v_4)) H := hP
        have hD : va_D A (wS ad T (sF (sF t 7 a0) 8 v_4)) := hD
        have hfin : (sF (sF t 7 a0) 8 v_4) = x_put a0 a1 t := by
          first | contradiction | (simp only [x_put, c_1, c_2, c_3, ↓reduceIte]; done) | (subst_vars; simp only [x_put, c_1, c_2, c_3, ↓reduceIte])
        rw [hfin] at hP hD
        subst hQ
        exact W.vret hx hb hr (fun t9 ht hW => ⟨⟨(), rfl, trivial, by rw [ht]; exact hP, va_K.moved hW.alike hK, hD⟩, hS.F ht⟩) hS.2.2 de_F_put_49
    · skip
      refine lv_lload_n hx hb de_F_put_24 rfl (lv_at hl 1 rfl) ?_
      refine lv_lneg hx hb de_F_put_25 ?_
      refine lv_topl (fun v_5 ev_5 => ?_)
      have ev_5 : v_5 = -a0 := ev_5
      refine lv_goto (tgt := 30) hx hb de_F_put_26 (by decide) ?_
      refine va_put (D := (dC, dI)) (ci := 8) (v := .long v_5) (ty := .long) (C := "StabilitySums$Fraction") (T := TB_F) (N := 2) hx hb hts ui_F tt_F tk_F nm_F hown hK hP hD hS 8 rfl rfl 0 (by decide) (hts _ uw_246) (fun _ h9 => h9) rfl (by decide +kernel) rfl rfl (Nat.le_of_ble_eq_true rfl) de_F_put_30 (fun H locs hP hD hS => ?_)
      have hP : va_P (dC, dI) CLS (wS ad T (sF t 7 v_5)) H := hP
      have hD : va_D A (wS ad T (sF t 7 v_5)) := hD
      refine lv_aload_n hx hb de_F_put_33 rfl (lv_at hl 0 rfl) ?_
      refine lv_lload_n hx hb de_F_put_34 rfl (lv_at hl 2 rfl) ?_
      refine lv_lconst (v := 0) hx hb de_F_put_35 (by decide) ?_
      refine rw_ge (tgt := 45) hx hb de_F_put_36 de_F_put_37 (by decide) (fun c_6 => ?_) (fun c_6 => ?_)
      · skip
        refine lv_lload_n hx hb de_F_put_45 rfl (lv_at hl 2 rfl) ?_
        refine va_put (D := (dC, dI)) (ci := 8) (v := .long a1) (ty := .long) (C := "StabilitySums$Fraction") (T := TB_F) (N := 2) hx hb hts ui_F tt_F tk_F nm_F hown hK hP hD hS 8 rfl rfl 1 (by decide) (hts _ uw_248) (fun _ h9 => h9) rfl (by decide +kernel) rfl rfl (Nat.le_of_ble_eq_true rfl) de_F_put_46 (fun H locs hP hD hS => ?_)
        have hP : va_P (dC, dI) CLS (wS ad T (sF (sF t 7 v_5) 8 a1)) H := hP
        have hD : va_D A (wS ad T (sF (sF t 7 v_5) 8 a1)) := hD
        have hfin : (sF (sF t 7 v_5) 8 a1) = x_put a0 a1 t := by
          first | contradiction | (simp only [x_put, c_1, c_2, c_6, ↓reduceIte]; done) | (subst_vars; simp only [x_put, c_1, c_2, c_6, ↓reduceIte])
        rw [hfin] at hP hD
        subst hQ
        exact W.vret hx hb hr (fun t9 ht hW => ⟨⟨(), rfl, trivial, by rw [ht]; exact hP, va_K.moved hW.alike hK, hD⟩, hS.F ht⟩) hS.2.2 de_F_put_49
      · skip
        refine lv_lload_n hx hb de_F_put_40 rfl (lv_at hl 2 rfl) ?_
        refine lv_lneg hx hb de_F_put_41 ?_
        refine lv_topl (fun v_7 ev_7 => ?_)
        have ev_7 : v_7 = -a1 := ev_7
        refine lv_goto (tgt := 46) hx hb de_F_put_42 (by decide) ?_
        refine va_put (D := (dC, dI)) (ci := 8) (v := .long v_7) (ty := .long) (C := "StabilitySums$Fraction") (T := TB_F) (N := 2) hx hb hts ui_F tt_F tk_F nm_F hown hK hP hD hS 8 rfl rfl 1 (by decide) (hts _ uw_248) (fun _ h9 => h9) rfl (by decide +kernel) rfl rfl (Nat.le_of_ble_eq_true rfl) de_F_put_46 (fun H locs hP hD hS => ?_)
        have hP : va_P (dC, dI) CLS (wS ad T (sF (sF t 7 v_5) 8 v_7)) H := hP
        have hD : va_D A (wS ad T (sF (sF t 7 v_5) 8 v_7)) := hD
        have hfin : (sF (sF t 7 v_5) 8 v_7) = x_put a0 a1 t := by
          first | contradiction | (simp only [x_put, c_1, c_2, c_6, ↓reduceIte]; done) | (subst_vars; simp only [x_put, c_1, c_2, c_6, ↓reduceIte])
        rw [hfin] at hP hD
        subst hQ
        exact W.vret hx hb hr (fun t9 ht hW => ⟨⟨(), rfl, trivial, by rw [ht]; exact hP, va_K.moved hW.alike hK, hD⟩, hS.F ht⟩) hS.2.2 de_F_put_49
  · skip
    refine lv_aload_n hx hb de_F_put_6 rfl (lv_at hl 0 rfl) ?_
    refine lv_lconst (v := 0) hx hb de_F_put_7 (by decide) ?_
    refine va_put (D := (dC, dI)) (ci := 8) (v := .long 0) (ty := .long) (C := "StabilitySums$Fraction") (T := TB_F) (N := 2) hx hb hts ui_F tt_F tk_F nm_F hown hK hP hD hS 8 rfl rfl 0 (by decide) (hts _ uw_246) (fun _ h9 => h9) rfl (by decide +kernel) rfl rfl (Nat.le_of_ble_eq_true rfl) de_F_put_8 (fun H locs hP hD hS => ?_)
    have hP : va_P (dC, dI) CLS (wS ad T (sF t 7 0)) H := hP
    have hD : va_D A (wS ad T (sF t 7 0)) := hD
    refine lv_aload_n hx hb de_F_put_11 rfl (lv_at hl 0 rfl) ?_
    refine lv_lconst (v := 1) hx hb de_F_put_12 (by decide) ?_
    refine va_put (D := (dC, dI)) (ci := 8) (v := .long 1) (ty := .long) (C := "StabilitySums$Fraction") (T := TB_F) (N := 2) hx hb hts ui_F tt_F tk_F nm_F hown hK hP hD hS 8 rfl rfl 1 (by decide) (hts _ uw_248) (fun _ h9 => h9) rfl (by decide +kernel) rfl rfl (Nat.le_of_ble_eq_true rfl) de_F_put_13 (fun H locs hP hD hS => ?_)
    have hP : va_P (dC, dI) CLS (wS ad T (sF (sF t 7 0) 8 1)) H := hP
    have hD : va_D A (wS ad T (sF (sF t 7 0) 8 1)) := hD
    have hfin : (sF (sF t 7 0) 8 1) = x_put a0 a1 t := by
      first | contradiction | (simp only [x_put, c_1, ↓reduceIte]; done) | (subst_vars; simp only [x_put, c_1, ↓reduceIte])
    rw [hfin] at hP hD
    subst hQ
    exact W.vret hx hb hr (fun t9 ht hW => ⟨⟨(), rfl, trivial, by rw [ht]; exact hP, va_K.moved hW.alike hK, hD⟩, hS.F ht⟩) hS.2.2 de_F_put_16
set_option maxHeartbeats 4000000 in
set_option maxRecDepth 100000 in
theorem mt_F_floor (l : Launch) (dC : Nat → ClassId) (dI : Nat → Nat → Nat) (ad : Nat → Nat) (T : Nat → ClassId) (t : St)   (sz : Nat) : Met l yn_F_floor (.code yn_F_floor cd_F_floor 1 (some .long) :: UW) ({ frames := 2, cells := 0, slots := 0, locals := 48 } : Room) (va_Pc [.ref (ad 8)] (Pw (dC, dI) CLS (TY T) (wS ad T t) sz)) (va_Ql (fun (r : Int64) (_ : Unit) => r = x_flr t) (Bw (dC, dI) CLS (TY T) (fun _ : Unit => (wS ad T t)) (va_A (wS ad T t) sz)) (va_A (wS ad T t) sz)) 0 0 (va_A (wS ad T t) sz) := by
  refine Met.ofW (cc := cd_F_floor) (maxL := 1) (ret := (some .long)) (by decide) rfl ?_
  intro p e s m args below meth c s₁ B hml hv
  obtain ⟨rfl, hsz, hP, hK, hD0, hN⟩ := hv
  have hx := B.exec
  have hb := B.bytes
  have hr := B.returns
  have hts : ∀ w ∈ UW, w.before _ s = true := fun w h => atoms_spec (ws := .code yn_F_floor cd_F_floor 1 (some .long) :: UW) B.pre w (List.mem_cons_of_mem _ h)
  have hown : s.vm.findClass "StabilitySums$Fraction" = some m.cls := findClass_of_methodNamed B.named
  have hlocks := B.notSynchronized
  subst hsz
  have hD := hD0.self (sz := s.heap.size)
  generalize hAe : va_A (wS ad T t) s.heap.size = A at hD ⊢
  have hA : ∀ q : Nat, s.heap.size ≤ q → A q := fun q h => by rw [← hAe]; exact Or.inr h
  have hS : va_S A s.heap s.heap [] := va_S.rf
  have hl := lv_entry ([.ref (ad 8)]) (n := 1) (Nat.le_of_ble_eq_true rfl)
  rw [lg_entry_eq]
  generalize (lg_sl ([.ref (ad 8)]) ++ List.replicate (1 - (lg_sl ([.ref (ad 8)])).length) Slot.unset).toArray = ls at hl ⊢
  have hl : lv_has ls 1 [(0, .ref (ad 8))] := hl
  generalize hQ : MQ below _ _ s 0 0 A = Q
  refine lv_aload_n hx hb de_F_floor_0 rfl (lv_at hl 0 rfl) ?_
  refine va_get (D := (dC, dI)) (ci := 8) (v := .long (t.2.2.1 7)) (C := "StabilitySums$Fraction") (T := TB_F) (N := 2) hx hb hts ui_F hown hK hP 8 rfl rfl 0 (by decide) (hts _ uw_246) (fun _ h9 => h9) rfl de_F_floor_1 ?_
  refine lv_aload_n hx hb de_F_floor_4 rfl (lv_at hl 0 rfl) ?_
  refine va_get (D := (dC, dI)) (ci := 8) (v := .long (t.2.2.1 8)) (C := "StabilitySums$Fraction") (T := TB_F) (N := 2) hx hb hts ui_F hown hK hP 8 rfl rfl 1 (by decide) (hts _ uw_248) (fun _ h9 => h9) rfl de_F_floor_5 ?_
  refine cl_Tl (As := [.long (t.2.2.1 7), .long (t.2.2.1 8)]) (rest := []) ⟨hx, hb, hml, hown, hts⟩ (mt_S_divideDown l dC dI ad T t (t.2.2.1 7) (t.2.2.1 8)) ⟨va_cnB 2 hts (uw_C uw_355) rfl rfl rfl (hN _ (List.mem_of_getElem? (i := 8) rfl)) (hts _ uw_27) (by decide +kernel) ⟨Nat.le_of_ble_eq_true rfl, Nat.le_of_ble_eq_true rfl⟩, hts _ uw_354, trivial⟩ rfl hl.1 rfl (by decide) de_F_floor_8 ⟨Nat.zero_le _, Nat.zero_le _⟩ hK hN hP hD hS hA (fun r_1 _ H locs hw_1 hP hD hS => ?_)
  have hw_1 : r_1 = x_dd (t.2.2.1 7) (t.2.2.1 8) := hw_1
  subst hQ
  have hpost : r_1 = x_flr t := by
    exact hw_1
  exact W.lret (v := r_1) hx hb hr (fun t9 ht hW => ⟨⟨r_1, (), rfl, hpost, by rw [ht]; exact hP, va_K.moved hW.alike hK, hD⟩, hS.F ht⟩) hS.2.2 de_F_floor_11
set_option maxHeartbeats 4000000 in
set_option maxRecDepth 100000 in
theorem mt_F_ceiling (l : Launch) (dC : Nat → ClassId) (dI : Nat → Nat → Nat) (ad : Nat → Nat) (T : Nat → ClassId) (t : St)   (sz : Nat) : Met l yn_F_ceiling (.code yn_F_ceiling cd_F_ceiling 1 (some .long) :: UW) ({ frames := 2, cells := 0, slots := 0, locals := 48 } : Room) (va_Pc [.ref (ad 8)] (Pw (dC, dI) CLS (TY T) (wS ad T t) sz)) (va_Ql (fun (r : Int64) (_ : Unit) => r = x_cei t) (Bw (dC, dI) CLS (TY T) (fun _ : Unit => (wS ad T t)) (va_A (wS ad T t) sz)) (va_A (wS ad T t) sz)) 0 0 (va_A (wS ad T t) sz) := by
  refine Met.ofW (cc := cd_F_ceiling) (maxL := 1) (ret := (some .long)) (by decide) rfl ?_
  intro p e s m args below meth c s₁ B hml hv
  obtain ⟨rfl, hsz, hP, hK, hD0, hN⟩ := hv
  have hx := B.exec
  have hb := B.bytes
  have hr := B.returns
  have hts : ∀ w ∈ UW, w.before _ s = true := fun w h => atoms_spec (ws := .code yn_F_ceiling cd_F_ceiling 1 (some .long) :: UW) B.pre w (List.mem_cons_of_mem _ h)
  have hown : s.vm.findClass "StabilitySums$Fraction" = some m.cls := findClass_of_methodNamed B.named
  have hlocks := B.notSynchronized
  subst hsz
  have hD := hD0.self (sz := s.heap.size)
  generalize hAe : va_A (wS ad T t) s.heap.size = A at hD ⊢
  have hA : ∀ q : Nat, s.heap.size ≤ q → A q := fun q h => by rw [← hAe]; exact Or.inr h
  have hS : va_S A s.heap s.heap [] := va_S.rf
  have hl := lv_entry ([.ref (ad 8)]) (n := 1) (Nat.le_of_ble_eq_true rfl)
  rw [lg_entry_eq]
  generalize (lg_sl ([.ref (ad 8)]) ++ List.replicate (1 - (lg_sl ([.ref (ad 8)])).length) Slot.unset).toArray = ls at hl ⊢
  have hl : lv_has ls 1 [(0, .ref (ad 8))] := hl
  generalize hQ : MQ below _ _ s 0 0 A = Q
  refine lv_aload_n hx hb de_F_ceiling_0 rfl (lv_at hl 0 rfl) ?_
  refine va_get (D := (dC, dI)) (ci := 8) (v := .long (t.2.2.1 7)) (C := "StabilitySums$Fraction") (T := TB_F) (N := 2) hx hb hts ui_F hown hK hP 8 rfl rfl 0 (by decide) (hts _ uw_246) (fun _ h9 => h9) rfl de_F_ceiling_1 ?_
  refine lv_lneg hx hb de_F_ceiling_4 ?_
  refine lv_topl (fun v_1 ev_1 => ?_)
  have ev_1 : v_1 = -(t.2.2.1 7) := ev_1
  refine lv_aload_n hx hb de_F_ceiling_5 rfl (lv_at hl 0 rfl) ?_
  refine va_get (D := (dC, dI)) (ci := 8) (v := .long (t.2.2.1 8)) (C := "StabilitySums$Fraction") (T := TB_F) (N := 2) hx hb hts ui_F hown hK hP 8 rfl rfl 1 (by decide) (hts _ uw_248) (fun _ h9 => h9) rfl de_F_ceiling_6 ?_
  refine cl_Tl (As := [.long v_1, .long (t.2.2.1 8)]) (rest := []) ⟨hx, hb, hml, hown, hts⟩ (mt_S_divideDown l dC dI ad T t v_1 (t.2.2.1 8)) ⟨va_cnB 2 hts (uw_C uw_355) rfl rfl rfl (hN _ (List.mem_of_getElem? (i := 8) rfl)) (hts _ uw_27) (by decide +kernel) ⟨Nat.le_of_ble_eq_true rfl, Nat.le_of_ble_eq_true rfl⟩, hts _ uw_354, trivial⟩ rfl hl.1 rfl (by decide) de_F_ceiling_9 ⟨Nat.zero_le _, Nat.zero_le _⟩ hK hN hP hD hS hA (fun r_2 _ H locs hw_2 hP hD hS => ?_)
  have hw_2 : r_2 = x_dd v_1 (t.2.2.1 8) := hw_2
  refine lv_lneg hx hb de_F_ceiling_12 ?_
  refine lv_topl (fun v_3 ev_3 => ?_)
  have ev_3 : v_3 = -r_2 := ev_3
  subst hQ
  have hpost : v_3 = x_cei t := by
    subst_vars; rfl
  exact W.lret (v := v_3) hx hb hr (fun t9 ht hW => ⟨⟨v_3, (), rfl, hpost, by rw [ht]; exact hP, va_K.moved hW.alike hK, hD⟩, hS.F ht⟩) hS.2.2 de_F_ceiling_13
set_option maxHeartbeats 4000000 in
set_option maxRecDepth 100000 in
theorem mt_F_commonDivisor (l : Launch) (dC : Nat → ClassId) (dI : Nat → Nat → Nat) (ad : Nat → Nat) (T : Nat → ClassId) (t : St) (a0 : Int64) (a1 : Int64)  (sz : Nat) : Met l yn_F_commonDivisor (.code yn_F_commonDivisor cd_F_commonDivisor 11 (some .long) :: UW) ({ frames := 0, cells := 0, slots := 0, locals := 0 } : Room) (va_Pc [.long a0, .long a1] (Pw (dC, dI) CLS (TY T) (wS ad T t) sz)) (va_Ql (fun (r : Int64) (_ : Unit) => r = x_gcd 1000 a0 a1) (Bw (dC, dI) CLS (TY T) (fun _ : Unit => (wS ad T t)) (va_A (wS ad T t) sz)) (va_A (wS ad T t) sz)) 0 0 (va_A (wS ad T t) sz) := by
  refine Met.ofW (cc := cd_F_commonDivisor) (maxL := 11) (ret := (some .long)) (by decide) rfl ?_
  intro p e s m args below meth c s₁ B hml hv
  obtain ⟨rfl, hsz, hP, hK, hD0, hN⟩ := hv
  have hx := B.exec
  have hb := B.bytes
  have hr := B.returns
  have hts : ∀ w ∈ UW, w.before _ s = true := fun w h => atoms_spec (ws := .code yn_F_commonDivisor cd_F_commonDivisor 11 (some .long) :: UW) B.pre w (List.mem_cons_of_mem _ h)
  have hown : s.vm.findClass "StabilitySums$Fraction" = some m.cls := findClass_of_methodNamed B.named
  have hlocks := B.notSynchronized
  subst hsz
  have hD := hD0.self (sz := s.heap.size)
  generalize hAe : va_A (wS ad T t) s.heap.size = A at hD ⊢
  have hA : ∀ q : Nat, s.heap.size ≤ q → A q := fun q h => by rw [← hAe]; exact Or.inr h
  have hS : va_S A s.heap s.heap [] := va_S.rf
  have hl := lv_entry ([.long a0, .long a1]) (n := 11) (Nat.le_of_ble_eq_true rfl)
  rw [lg_entry_eq]
  generalize (lg_sl ([.long a0, .long a1]) ++ List.replicate (11 - (lg_sl ([.long a0, .long a1])).length) Slot.unset).toArray = ls at hl ⊢
  have hl : lv_has ls 11 [(0, .long a0), (2, .long a1)] := hl
  generalize hQ : MQ below _ _ s 0 0 A = Q
  refine lv_lload_n hx hb de_F_commonDivisor_0 rfl (lv_at hl 0 rfl) ?_
  refine lv_lstore (lv' := [(4, .long a0), (0, .long a0), (2, .long a1)]) hx hb de_F_commonDivisor_1 hl (by decide) rfl (fun ls hl => ?_)
  refine lv_lload_n hx hb de_F_commonDivisor_3 rfl (lv_at hl 2 rfl) ?_
  refine lv_lstore (lv' := [(6, .long a1), (4, .long a0), (0, .long a0), (2, .long a1)]) hx hb de_F_commonDivisor_4 hl (by decide) rfl (fun ls hl => ?_)
  refine lv_iconst (v := 0) hx hb de_F_commonDivisor_6 (by decide) ?_
  refine lv_istore (lv' := [(8, .int 0), (6, .long a1), (4, .long a0), (0, .long a0), (2, .long a1)]) hx hb de_F_commonDivisor_7 hl (by decide) rfl (fun ls hl => ?_)
  have loop_9 : ∀ (n : Nat) (i : Nat) (a b : Int64), (i + n = 1000) → (x_gcd n a b = x_gcd 1000 a0 a1) → ∀ (H : Heap) (locs : List Loc) (ls : Array Slot), va_P (dC, dI) CLS (wS ad T t) H → va_D A (wS ad T t) → va_S A s.heap H locs → lv_has ls 11 [(4, .long a), (6, .long b), (8, .int (nI i))] → W p l e (headSpec (.code yn_F_commonDivisor cd_F_commonDivisor 11 (some .long) :: UW) ({ frames := 0, cells := 0, slots := 0, locals := 0 } : Room)).room s m ([.long a0, .long a1] : List Value).toArray below meth c H locs 0 0 Q (F0 m 9 ls []) := by
    intro n
    induction n with
    | zero =>
      intro i a b hi hq H locs ls hP hD hS hl
      refine lv_iload hx hb de_F_commonDivisor_9 (lv_at hl 2 rfl) ?_
      refine lv_sipush (v := 1000) hx hb de_F_commonDivisor_11 (by decide) ?_
      refine lv_icmp_ge (tgt := 45) hx hb de_F_commonDivisor_14 (by decide) (fun c_1 => ?_) (fun c_1 => ?_)
      · skip
        have c_1 : 1000 ≤ i := (nI_leI (a := 1000) (b := i) (by omega) (by omega)).mp c_1
        refine lv_lload hx hb de_F_commonDivisor_45 (lv_at hl 0 rfl) ?_
        subst hQ
        have hpost : a = x_gcd 1000 a0 a1 := by
          rw [← hq]; first | rfl | (rw [x_gcd, if_pos c_1])
        exact W.lret (v := a) hx hb hr (fun t9 ht hW => ⟨⟨a, (), rfl, hpost, by rw [ht]; exact hP, va_K.moved hW.alike hK, hD⟩, hS.F ht⟩) hS.2.2 de_F_commonDivisor_47
      · skip
        have c_1 : ¬ (1000 ≤ i) := fun z => c_1 ((nI_leI (a := 1000) (b := i) (by omega) (by omega)).mpr z)
        exfalso; omega
    | succ n ih =>
      intro i a b hi hq H locs ls hP hD hS hl
      refine lv_iload hx hb de_F_commonDivisor_9 (lv_at hl 2 rfl) ?_
      refine lv_sipush (v := 1000) hx hb de_F_commonDivisor_11 (by decide) ?_
      refine lv_icmp_ge (tgt := 45) hx hb de_F_commonDivisor_14 (by decide) (fun c_2 => ?_) (fun c_2 => ?_)
      · skip
        have c_2 : 1000 ≤ i := (nI_leI (a := 1000) (b := i) (by omega) (by omega)).mp c_2
        exfalso; omega
      · skip
        have c_2 : ¬ (1000 ≤ i) := fun z => c_2 ((nI_leI (a := 1000) (b := i) (by omega) (by omega)).mpr z)
        refine lv_lload hx hb de_F_commonDivisor_17 (lv_at hl 1 rfl) ?_
        refine lv_lconst (v := 0) hx hb de_F_commonDivisor_19 (by decide) ?_
        refine rw_eq (tgt := 45) hx hb de_F_commonDivisor_20 de_F_commonDivisor_21 (by decide) (fun c_3 => ?_) (fun c_3 => ?_)
        · skip
          refine lv_lload hx hb de_F_commonDivisor_45 (lv_at hl 0 rfl) ?_
          subst hQ
          have hpost : a = x_gcd 1000 a0 a1 := by
            rw [← hq]; first | rfl | (rw [x_gcd, if_pos c_3])
          exact W.lret (v := a) hx hb hr (fun t9 ht hW => ⟨⟨a, (), rfl, hpost, by rw [ht]; exact hP, va_K.moved hW.alike hK, hD⟩, hS.F ht⟩) hS.2.2 de_F_commonDivisor_47
        · skip
          refine lv_lload hx hb de_F_commonDivisor_24 (lv_at hl 0 rfl) ?_
          refine lv_lload hx hb de_F_commonDivisor_26 (lv_at hl 1 rfl) ?_
          refine lv_lrem hx hb de_F_commonDivisor_28 c_3 ?_
          refine lv_topl (fun v_4 ev_4 => ?_)
          have ev_4 : v_4 = a - a / b * b := ev_4
          refine lv_lstore (lv' := [(9, .long v_4), (4, .long a), (6, .long b), (8, .int (nI i))]) hx hb de_F_commonDivisor_29 hl (by decide) rfl (fun ls hl => ?_)
          refine lv_lload hx hb de_F_commonDivisor_31 (lv_at hl 2 rfl) ?_
          refine lv_lstore (lv' := [(4, .long b), (9, .long v_4), (6, .long b), (8, .int (nI i))]) hx hb de_F_commonDivisor_33 hl (by decide) rfl (fun ls hl => ?_)
          refine lv_lload hx hb de_F_commonDivisor_35 (lv_at hl 1 rfl) ?_
          refine lv_lstore (lv' := [(6, .long v_4), (4, .long b), (9, .long v_4), (8, .int (nI i))]) hx hb de_F_commonDivisor_37 hl (by decide) rfl (fun ls hl => ?_)
          refine lv_iinc (v := (nI (i + 1))) (lv' := [(8, .int (nI (i + 1))), (6, .long v_4), (4, .long b), (9, .long v_4)]) hx hb de_F_commonDivisor_39 hl (k := 3) rfl (nI_1 i) (by decide) rfl (fun ls hl => ?_)
          refine lv_goto (tgt := 9) hx hb de_F_commonDivisor_42 (by decide) ?_
          exact ih (i + 1) b v_4 (by omega) (by rw [← hq, x_gcd, if_neg c_3]; subst_vars; rfl) H locs ls hP hD hS (lv_sub hl [2, 1, 0] rfl)
  exact loop_9 1000 0 a0 a1 (by omega) rfl _ _ ls hP hD hS (lv_sub hl [2, 1, 0] rfl)
set_option maxHeartbeats 4000000 in
set_option maxRecDepth 100000 in
theorem mt_F_reduce (l : Launch) (dC : Nat → ClassId) (dI : Nat → Nat → Nat) (ad : Nat → Nat) (T : Nat → ClassId) (t : St)   (sz : Nat) : Met l yn_F_reduce (.code yn_F_reduce cd_F_reduce 3 none :: UW) ({ frames := 1, cells := 0, slots := 0, locals := 30 } : Room) (va_Pc [.ref (ad 8)] (Pw (dC, dI) CLS (TY T) (wS ad T t) sz)) (va_Qv (fun _ : Unit => True) (Bw (dC, dI) CLS (TY T) (fun _ : Unit => (wS ad T (x_red t))) (va_A (wS ad T t) sz)) (va_A (wS ad T t) sz)) 0 0 (va_A (wS ad T t) sz) := by
  refine Met.ofW (cc := cd_F_reduce) (maxL := 3) (ret := none) (by decide) rfl ?_
  intro p e s m args below meth c s₁ B hml hv
  obtain ⟨rfl, hsz, hP, hK, hD0, hN⟩ := hv
  have hx := B.exec
  have hb := B.bytes
  have hr := B.returns
  have hts : ∀ w ∈ UW, w.before _ s = true := fun w h => atoms_spec (ws := .code yn_F_reduce cd_F_reduce 3 none :: UW) B.pre w (List.mem_cons_of_mem _ h)
  have hown : s.vm.findClass "StabilitySums$Fraction" = some m.cls := findClass_of_methodNamed B.named
  have hlocks := B.notSynchronized
  subst hsz
  have hD := hD0.self (sz := s.heap.size)
  generalize hAe : va_A (wS ad T t) s.heap.size = A at hD ⊢
  have hA : ∀ q : Nat, s.heap.size ≤ q → A q := fun q h => by rw [← hAe]; exact Or.inr h
  have hS : va_S A s.heap s.heap [] := va_S.rf
  have hl := lv_entry ([.ref (ad 8)]) (n := 3) (Nat.le_of_ble_eq_true rfl)
  rw [lg_entry_eq]
  generalize (lg_sl ([.ref (ad 8)]) ++ List.replicate (3 - (lg_sl ([.ref (ad 8)])).length) Slot.unset).toArray = ls at hl ⊢
  have hl : lv_has ls 3 [(0, .ref (ad 8))] := hl
  generalize hQ : MQ below _ _ s 0 0 A = Q
  refine lv_aload_n hx hb de_F_reduce_0 rfl (lv_at hl 0 rfl) ?_
  refine va_get (D := (dC, dI)) (ci := 8) (v := .long (t.2.2.1 7)) (C := "StabilitySums$Fraction") (T := TB_F) (N := 2) hx hb hts ui_F hown hK hP 8 rfl rfl 0 (by decide) (hts _ uw_246) (fun _ h9 => h9) rfl de_F_reduce_1 ?_
  refine va_mabs_long hx hb (hml.trans hl.1.symm) hown (hts _ uw_625) (hts _ uw_413) (hts _ uw_43) (hts _ uw_414) (Nat.le_of_ble_eq_true rfl) (Nat.le_of_ble_eq_true rfl) (Nat.zero_le _) (Nat.zero_le _) de_F_reduce_4 ?_
  refine lv_topl (fun v_1 ev_1 => ?_)
  have ev_1 : v_1 = (if 0 < (t.2.2.1 7) then (t.2.2.1 7) else -(t.2.2.1 7)) := ev_1
  refine lv_aload_n hx hb de_F_reduce_7 rfl (lv_at hl 0 rfl) ?_
  refine va_get (D := (dC, dI)) (ci := 8) (v := .long (t.2.2.1 8)) (C := "StabilitySums$Fraction") (T := TB_F) (N := 2) hx hb hts ui_F hown hK hP 8 rfl rfl 1 (by decide) (hts _ uw_248) (fun _ h9 => h9) rfl de_F_reduce_8 ?_
  refine cl_Sl (As := [.long v_1, .long (t.2.2.1 8)]) (rest := []) ⟨hx, hb, hml, hown, hts⟩ (mt_F_commonDivisor l dC dI ad T t v_1 (t.2.2.1 8)) (va_cwS 2 hts (uw_S uw_626 uw_627 uw_35 uw_628) rfl rfl rfl (by decide +kernel) ⟨Nat.le_of_ble_eq_true rfl, Nat.le_of_ble_eq_true rfl⟩) rfl hl.1 rfl (by decide) de_F_reduce_11 ⟨Nat.zero_le _, Nat.zero_le _⟩ hK hN hP hD hS hA (fun r_2 _ H locs hw_2 hP hD hS => ?_)
  have hw_2 : r_2 = x_gcd 1000 v_1 (t.2.2.1 8) := hw_2
  refine lv_lstore_n (lv' := [(1, .long r_2), (0, .ref (ad 8))]) hx hb de_F_reduce_14 rfl hl (by decide) rfl (fun ls hl => ?_)
  refine lv_lload_n hx hb de_F_reduce_15 rfl (lv_at hl 0 rfl) ?_
  refine lv_lconst (v := 1) hx hb de_F_reduce_16 (by decide) ?_
  refine rw_le (tgt := 41) hx hb de_F_reduce_17 de_F_reduce_18 (by decide) (fun c_3 => ?_) (fun c_3 => ?_)
  · skip
    have hfin : t = x_red t := by
      subst_vars; unfold x_red x_abs; first | rw [if_pos c_3] | rw [if_neg c_3]
    rw [hfin] at hP hD
    subst hQ
    exact W.vret hx hb hr (fun t9 ht hW => ⟨⟨(), rfl, trivial, by rw [ht]; exact hP, va_K.moved hW.alike hK, hD⟩, hS.F ht⟩) hS.2.2 de_F_reduce_41
  · skip
    refine lv_aload_n hx hb de_F_reduce_21 rfl (lv_at hl 1 rfl) ?_
    refine lv_dup hx hb de_F_reduce_22 rfl ?_
    refine va_get (D := (dC, dI)) (ci := 8) (v := .long (t.2.2.1 7)) (C := "StabilitySums$Fraction") (T := TB_F) (N := 2) hx hb hts ui_F hown hK hP 8 rfl rfl 0 (by decide) (hts _ uw_246) (fun _ h9 => h9) rfl de_F_reduce_23 ?_
    refine lv_lload_n hx hb de_F_reduce_26 rfl (lv_at hl 0 rfl) ?_
    refine lv_ldiv hx hb de_F_reduce_27 (fun z => c_3 (by rw [z]; decide)) ?_
    refine lv_topl (fun v_4 ev_4 => ?_)
    have ev_4 : v_4 = (t.2.2.1 7) / r_2 := ev_4
    refine va_put (D := (dC, dI)) (ci := 8) (v := .long v_4) (ty := .long) (C := "StabilitySums$Fraction") (T := TB_F) (N := 2) hx hb hts ui_F tt_F tk_F nm_F hown hK hP hD hS 8 rfl rfl 0 (by decide) (hts _ uw_246) (fun _ h9 => h9) rfl (by decide +kernel) rfl rfl (Nat.le_of_ble_eq_true rfl) de_F_reduce_28 (fun H locs hP hD hS => ?_)
    have hP : va_P (dC, dI) CLS (wS ad T (sF t 7 v_4)) H := hP
    have hD : va_D A (wS ad T (sF t 7 v_4)) := hD
    refine lv_aload_n hx hb de_F_reduce_31 rfl (lv_at hl 1 rfl) ?_
    refine lv_dup hx hb de_F_reduce_32 rfl ?_
    refine va_get (D := (dC, dI)) (ci := 8) (v := .long (t.2.2.1 8)) (C := "StabilitySums$Fraction") (T := TB_F) (N := 2) hx hb hts ui_F hown hK hP 8 rfl rfl 1 (by decide) (hts _ uw_248) (fun _ h9 => h9) rfl de_F_reduce_33 ?_
    refine lv_lload_n hx hb de_F_reduce_36 rfl (lv_at hl 0 rfl) ?_
    refine lv_ldiv hx hb de_F_reduce_37 (fun z => c_3 (by rw [z]; decide)) ?_
    refine lv_topl (fun v_5 ev_5 => ?_)
    have ev_5 : v_5 = (t.2.2.1 8) / r_2 := ev_5
    refine va_put (D := (dC, dI)) (ci := 8) (v := .long v_5) (ty := .long) (C := "StabilitySums$Fraction") (T := TB_F) (N := 2) hx hb hts ui_F tt_F tk_F nm_F hown hK hP hD hS 8 rfl rfl 1 (by decide) (hts _ uw_248) (fun _ h9 => h9) rfl (by decide +kernel) rfl rfl (Nat.le_of_ble_eq_true rfl) de_F_reduce_38 (fun H locs hP hD hS => ?_)
    have hP : va_P (dC, dI) CLS (wS ad T (sF (sF t 7 v_4) 8 v_5)) H := hP
    have hD : va_D A (wS ad T (sF (sF t 7 v_4) 8 v_5)) := hD
    have hfin : (sF (sF t 7 v_4) 8 v_5) = x_red t := by
      subst_vars; unfold x_red x_abs; first | rw [if_pos c_3] | rw [if_neg c_3]
    rw [hfin] at hP hD
    subst hQ
    exact W.vret hx hb hr (fun t9 ht hW => ⟨⟨(), rfl, trivial, by rw [ht]; exact hP, va_K.moved hW.alike hK, hD⟩, hS.F ht⟩) hS.2.2 de_F_reduce_41
set_option maxHeartbeats 4000000 in
set_option maxRecDepth 100000 in
theorem mt_B_read13 (l : Launch) (dC : Nat → ClassId) (dI : Nat → Nat → Nat) (ad : Nat → Nat) (T : Nat → ClassId) (t : St) (a1 : Int64) (hc : t.2.2.2 2 ≤ 12) (sz : Nat) : Met l yn_B_read (.code yn_B_read cd_B_read 12 none :: UW) ({ frames := 1, cells := 0, slots := 0, locals := 24 } : Room) (va_Pc [.ref (ad 3), .ref (ad 22), .long a1, .ref (ad 8)] (Pw (dC, dI) CLS (TY T) (wS ad T t) sz)) (va_Qv (fun _ : Unit => True) (Bw (dC, dI) CLS (TY T) (fun _ : Unit => (wS ad T (x_read 13 a1 t))) (va_A (wS ad T t) sz)) (va_A (wS ad T t) sz)) 0 0 (va_A (wS ad T t) sz) := by
  refine Met.ofW (cc := cd_B_read) (maxL := 12) (ret := none) (by decide) rfl ?_
  intro p e s m args below meth c s₁ B hml hv
  obtain ⟨rfl, hsz, hP, hK, hD0, hN⟩ := hv
  have hx := B.exec
  have hb := B.bytes
  have hr := B.returns
  have hts : ∀ w ∈ UW, w.before _ s = true := fun w h => atoms_spec (ws := .code yn_B_read cd_B_read 12 none :: UW) B.pre w (List.mem_cons_of_mem _ h)
  have hown : s.vm.findClass "StabilitySums$Table" = some m.cls := findClass_of_methodNamed B.named
  have hlocks := B.notSynchronized
  subst hsz
  have hD := hD0.self (sz := s.heap.size)
  generalize hAe : va_A (wS ad T t) s.heap.size = A at hD ⊢
  have hA : ∀ q : Nat, s.heap.size ≤ q → A q := fun q h => by rw [← hAe]; exact Or.inr h
  have hS : va_S A s.heap s.heap [] := va_S.rf
  have hl := lv_entry ([.ref (ad 3), .ref (ad 22), .long a1, .ref (ad 8)]) (n := 12) (Nat.le_of_ble_eq_true rfl)
  rw [lg_entry_eq]
  generalize (lg_sl ([.ref (ad 3), .ref (ad 22), .long a1, .ref (ad 8)]) ++ List.replicate (12 - (lg_sl ([.ref (ad 3), .ref (ad 22), .long a1, .ref (ad 8)])).length) Slot.unset).toArray = ls at hl ⊢
  have hl : lv_has ls 12 [(0, .ref (ad 3)), (1, .ref (ad 22)), (2, .long a1), (4, .ref (ad 8))] := hl
  generalize hQ : MQ below _ _ s 0 0 A = Q
  refine lv_iconst (v := 0) hx hb de_B_read_0 (by decide) ?_
  refine lv_istore (lv' := [(5, .int 0), (0, .ref (ad 3)), (1, .ref (ad 22)), (2, .long a1), (4, .ref (ad 8))]) hx hb de_B_read_1 hl (by decide) rfl (fun ls hl => ?_)
  have loop_3 : ∀ (n : Nat) (i : Nat), (i + n = t.2.2.2 2) → (x_abv t a1 n i = x_abv t a1 (t.2.2.2 2) 0) → ∀ (H : Heap) (locs : List Loc) (ls : Array Slot), va_P (dC, dI) CLS (wS ad T t) H → va_D A (wS ad T t) → va_S A s.heap H locs → lv_has ls 12 [(0, .ref (ad 3)), (1, .ref (ad 22)), (2, .long a1), (4, .ref (ad 8)), (5, .int (nI i))] → W p l e (headSpec (.code yn_B_read cd_B_read 12 none :: UW) ({ frames := 1, cells := 0, slots := 0, locals := 24 } : Room)).room s m ([.ref (ad 3), .ref (ad 22), .long a1, .ref (ad 8)] : List Value).toArray below meth c H locs 0 0 Q (F0 m 3 ls []) := by
    intro n
    induction n with
    | zero =>
      intro i hi hq H locs ls hP hD hS hl
      refine lv_iload hx hb de_B_read_3 (lv_at hl 4 rfl) ?_
      refine lv_aload_n hx hb de_B_read_5 rfl (lv_at hl 0 rfl) ?_
      refine va_get (D := (dC, dI)) (ci := 3) (v := .int (nI (t.2.2.2 2))) (C := "StabilitySums$Table") (T := TB_B) (N := 4) hx hb hts ui_B hown hK hP 3 rfl rfl 3 (by decide) (hts _ uw_134) (fun _ h9 => h9) rfl de_B_read_6 ?_
      refine lv_icmp_ge (tgt := 30) hx hb de_B_read_9 (by decide) (fun c_1 => ?_) (fun c_1 => ?_)
      · skip
        have c_1 : (t.2.2.2 2) ≤ i := (nI_leI (a := (t.2.2.2 2)) (b := i) (by omega) (by omega)).mp c_1
        have hi9 : i = x_abv t a1 (t.2.2.2 2) 0 := by rw [← hq]; first | rfl | (rw [x_abv, if_pos c_1])
        refine lv_aload_n hx hb de_B_read_30 rfl (lv_at hl 0 rfl) ?_
        refine va_get (D := (dC, dI)) (ci := 3) (v := .int (nI (t.2.2.2 2))) (C := "StabilitySums$Table") (T := TB_B) (N := 4) hx hb hts ui_B hown hK hP 3 rfl rfl 3 (by decide) (hts _ uw_134) (fun _ h9 => h9) rfl de_B_read_31 ?_
        refine lv_if_ne (tgt := 47) hx hb de_B_read_34 (by decide) (fun c_2 => ?_) (fun c_2 => ?_)
        · skip
          have c_2 : ¬ (t.2.2.2 2) = 0 := fun z => c_2 ((nz0 (by omega)).mpr z)
          refine lv_iload hx hb de_B_read_47 (lv_at hl 4 rfl) ?_
          refine lv_if_ne (tgt := 64) hx hb de_B_read_49 (by decide) (fun c_3 => ?_) (fun c_3 => ?_)
          · skip
            have c_3 : ¬ i = 0 := fun z => c_3 ((nz0 (by omega)).mpr z)
            refine lv_iload hx hb de_B_read_64 (lv_at hl 4 rfl) ?_
            refine lv_aload_n hx hb de_B_read_66 rfl (lv_at hl 0 rfl) ?_
            refine va_get (D := (dC, dI)) (ci := 3) (v := .int (nI (t.2.2.2 2))) (C := "StabilitySums$Table") (T := TB_B) (N := 4) hx hb hts ui_B hown hK hP 3 rfl rfl 3 (by decide) (hts _ uw_134) (fun _ h9 => h9) rfl de_B_read_67 ?_
            refine lv_icmp_ne (tgt := 90) hx hb de_B_read_70 (by decide) (fun c_4 => ?_) (fun c_4 => ?_)
            · skip
              have c_4 : ¬ (i = (t.2.2.2 2)) := fun z => c_4 ((nI_eq (a := i) (b := (t.2.2.2 2)) (by omega) (by omega)).mpr z)
              refine lv_aload_n hx hb de_B_read_90 rfl (lv_at hl 0 rfl) ?_
              refine va_get (D := (dC, dI)) (ci := 3) (v := .ref (ad 21)) (C := "StabilitySums$Table") (T := TB_B) (N := 4) hx hb hts ui_B hown hK hP 3 rfl rfl 0 (by decide) (hts _ uw_129) (fun _ h9 => h9) rfl de_B_read_91 ?_
              refine lv_iload hx hb de_B_read_94 (lv_at hl 4 rfl) ?_
              refine rw_lald (f := t.1 12) (j := i) hx hb hK hP 21 0 rfl rfl (by omega) (by decide) de_B_read_96 ?_
              refine lv_aload_n hx hb de_B_read_97 rfl (lv_at hl 0 rfl) ?_
              refine va_get (D := (dC, dI)) (ci := 3) (v := .ref (ad 21)) (C := "StabilitySums$Table") (T := TB_B) (N := 4) hx hb hts ui_B hown hK hP 3 rfl rfl 0 (by decide) (hts _ uw_129) (fun _ h9 => h9) rfl de_B_read_98 ?_
              refine lv_iload hx hb de_B_read_101 (lv_at hl 4 rfl) ?_
              refine lv_iconst (v := 1) hx hb de_B_read_103 (by decide) ?_
              refine lv_isub hx hb de_B_read_104 ?_
              refine lv_topi (fun v_5 ev_5 => ?_)
              have ev_5 : v_5 = (nI (i - 1)) := ev_5.trans (pk_sub (a := i) (b := 1) (by omega))
              subst ev_5
              refine rw_lald (f := t.1 12) (j := (i - 1)) hx hb hK hP 21 0 rfl rfl (by omega) (by decide) de_B_read_105 ?_
              refine lv_lsub hx hb de_B_read_106 ?_
              refine lv_topl (fun v_6 ev_6 => ?_)
              have ev_6 : v_6 = (t.1 12 i) - (t.1 12 (i - 1)) := ev_6
              refine lv_lstore (lv' := [(6, .long v_6), (0, .ref (ad 3)), (1, .ref (ad 22)), (2, .long a1), (4, .ref (ad 8)), (5, .int (nI i))]) hx hb de_B_read_107 hl (by decide) rfl (fun ls hl => ?_)
              refine lv_lload_n hx hb de_B_read_109 rfl (lv_at hl 3 rfl) ?_
              refine lv_aload_n hx hb de_B_read_110 rfl (lv_at hl 1 rfl) ?_
              refine va_get (D := (dC, dI)) (ci := 3) (v := .ref (ad 21)) (C := "StabilitySums$Table") (T := TB_B) (N := 4) hx hb hts ui_B hown hK hP 3 rfl rfl 0 (by decide) (hts _ uw_129) (fun _ h9 => h9) rfl de_B_read_111 ?_
              refine lv_iload hx hb de_B_read_114 (lv_at hl 5 rfl) ?_
              refine lv_iconst (v := 1) hx hb de_B_read_116 (by decide) ?_
              refine lv_isub hx hb de_B_read_117 ?_
              refine lv_topi (fun v_7 ev_7 => ?_)
              have ev_7 : v_7 = (nI (i - 1)) := ev_7.trans (pk_sub (a := i) (b := 1) (by omega))
              subst ev_7
              refine rw_lald (f := t.1 12) (j := (i - 1)) hx hb hK hP 21 0 rfl rfl (by omega) (by decide) de_B_read_118 ?_
              refine lv_lsub hx hb de_B_read_119 ?_
              refine lv_topl (fun v_8 ev_8 => ?_)
              have ev_8 : v_8 = a1 - (t.1 12 (i - 1)) := ev_8
              refine lv_lstore (lv' := [(8, .long v_8), (6, .long v_6), (0, .ref (ad 3)), (1, .ref (ad 22)), (2, .long a1), (4, .ref (ad 8)), (5, .int (nI i))]) hx hb de_B_read_120 hl (by decide) rfl (fun ls hl => ?_)
              refine lv_aload_n hx hb de_B_read_122 rfl (lv_at hl 3 rfl) ?_
              refine lv_iload hx hb de_B_read_123 (lv_at hl 6 rfl) ?_
              refine rw_lald (f := t.1 13) (j := i) hx hb hK hP 22 0 rfl rfl (by omega) (by decide) de_B_read_125 ?_
              refine lv_aload_n hx hb de_B_read_126 rfl (lv_at hl 3 rfl) ?_
              refine lv_iload hx hb de_B_read_127 (lv_at hl 6 rfl) ?_
              refine lv_iconst (v := 1) hx hb de_B_read_129 (by decide) ?_
              refine lv_isub hx hb de_B_read_130 ?_
              refine lv_topi (fun v_9 ev_9 => ?_)
              have ev_9 : v_9 = (nI (i - 1)) := ev_9.trans (pk_sub (a := i) (b := 1) (by omega))
              subst ev_9
              refine rw_lald (f := t.1 13) (j := (i - 1)) hx hb hK hP 22 0 rfl rfl (by omega) (by decide) de_B_read_131 ?_
              refine lv_lsub hx hb de_B_read_132 ?_
              refine lv_topl (fun v_10 ev_10 => ?_)
              have ev_10 : v_10 = (t.1 13 i) - (t.1 13 (i - 1)) := ev_10
              refine lv_lstore (lv' := [(10, .long v_10), (8, .long v_8), (6, .long v_6), (0, .ref (ad 3)), (1, .ref (ad 22)), (2, .long a1), (4, .ref (ad 8)), (5, .int (nI i))]) hx hb de_B_read_133 hl (by decide) rfl (fun ls hl => ?_)
              refine lv_aload hx hb de_B_read_135 (lv_at hl 6 rfl) ?_
              refine lv_aload_n hx hb de_B_read_137 rfl (lv_at hl 4 rfl) ?_
              refine lv_iload hx hb de_B_read_138 (lv_at hl 7 rfl) ?_
              refine lv_iconst (v := 1) hx hb de_B_read_140 (by decide) ?_
              refine lv_isub hx hb de_B_read_141 ?_
              refine lv_topi (fun v_11 ev_11 => ?_)
              have ev_11 : v_11 = (nI (i - 1)) := ev_11.trans (pk_sub (a := i) (b := 1) (by omega))
              subst ev_11
              refine rw_lald (f := t.1 13) (j := (i - 1)) hx hb hK hP 22 0 rfl rfl (by omega) (by decide) de_B_read_142 ?_
              refine lv_lload hx hb de_B_read_143 (lv_at hl 2 rfl) ?_
              refine lv_lmul hx hb de_B_read_145 ?_
              refine lv_topl (fun v_12 ev_12 => ?_)
              have ev_12 : v_12 = (t.1 13 (i - 1)) * v_6 := ev_12
              refine lv_lload hx hb de_B_read_146 (lv_at hl 0 rfl) ?_
              refine lv_lload hx hb de_B_read_148 (lv_at hl 1 rfl) ?_
              refine lv_lmul hx hb de_B_read_150 ?_
              refine lv_topl (fun v_13 ev_13 => ?_)
              have ev_13 : v_13 = v_10 * v_8 := ev_13
              refine lv_ladd hx hb de_B_read_151 ?_
              refine lv_topl (fun v_14 ev_14 => ?_)
              have ev_14 : v_14 = v_12 + v_13 := ev_14
              refine lv_lload hx hb de_B_read_152 (lv_at hl 2 rfl) ?_
              refine cl_Vv (As := [.long v_14, .long v_6]) (rest := []) ⟨hx, hb, hml, hown, hts⟩ (mt_F_put l dC dI ad T t v_14 v_6) (cwV 2 hts (uw_V uw_384 uw_377 uw_378 uw_35 uw_379) rfl rfl rfl (by decide +kernel) ⟨Nat.le_of_ble_eq_true rfl, Nat.le_of_ble_eq_true rfl⟩) (va_recv hK hP (ci := 8) (q0 := 8) rfl rfl) rfl hl.1 rfl (by decide) de_B_read_154 ⟨Nat.zero_le _, Nat.zero_le _⟩ hK hN hP hD hS hA (fun _ H locs hw_15 hP hD hS => ?_)
              obtain ⟨t_16, et_16⟩ : ∃ z, z = x_put v_14 v_6 t := ⟨_, rfl⟩
              have hP : va_P (dC, dI) CLS (wS ad T t_16) H := by rw [et_16]; exact hP
              have hD : va_D A (wS ad T t_16) := by rw [et_16]; exact hD
              obtain ⟨_, _, _, _, _, _⟩ : N6p t_16 t := by rw [et_16]; exact nsix (x_put_N _ _ _)
              have hfin : t_16 = x_read 13 a1 t := by
                subst_vars; unfold x_read; simp only [c_1, c_2, c_3, c_4, ↓reduceIte]
              rw [hfin] at hP hD
              subst hQ
              exact W.vret hx hb hr (fun t9 ht hW => ⟨⟨(), rfl, trivial, by rw [ht]; exact hP, va_K.moved hW.alike hK, hD⟩, hS.F ht⟩) hS.2.2 de_B_read_157
            · skip
              have c_4 : i = (t.2.2.2 2) := (nI_eq (a := i) (b := (t.2.2.2 2)) (by omega) (by omega)).mp c_4
              refine lv_aload hx hb de_B_read_73 (lv_at hl 3 rfl) ?_
              refine lv_aload_n hx hb de_B_read_75 rfl (lv_at hl 1 rfl) ?_
              refine lv_aload_n hx hb de_B_read_76 rfl (lv_at hl 0 rfl) ?_
              refine va_get (D := (dC, dI)) (ci := 3) (v := .int (nI (t.2.2.2 2))) (C := "StabilitySums$Table") (T := TB_B) (N := 4) hx hb hts ui_B hown hK hP 3 rfl rfl 3 (by decide) (hts _ uw_134) (fun _ h9 => h9) rfl de_B_read_77 ?_
              refine lv_iconst (v := 1) hx hb de_B_read_80 (by decide) ?_
              refine lv_isub hx hb de_B_read_81 ?_
              refine lv_topi (fun v_17 ev_17 => ?_)
              have ev_17 : v_17 = (nI ((t.2.2.2 2) - 1)) := ev_17.trans (pk_sub (a := (t.2.2.2 2)) (b := 1) (by omega))
              subst ev_17
              refine rw_lald (f := t.1 13) (j := ((t.2.2.2 2) - 1)) hx hb hK hP 22 0 rfl rfl (by omega) (by decide) de_B_read_82 ?_
              refine lv_lconst (v := 1) hx hb de_B_read_83 (by decide) ?_
              refine cl_Vv (As := [.long (t.1 13 ((t.2.2.2 2) - 1)), .long 1]) (rest := []) ⟨hx, hb, hml, hown, hts⟩ (mt_F_put l dC dI ad T t (t.1 13 ((t.2.2.2 2) - 1)) 1) (cwV 2 hts (uw_V uw_384 uw_377 uw_378 uw_35 uw_379) rfl rfl rfl (by decide +kernel) ⟨Nat.le_of_ble_eq_true rfl, Nat.le_of_ble_eq_true rfl⟩) (va_recv hK hP (ci := 8) (q0 := 8) rfl rfl) rfl hl.1 rfl (by decide) de_B_read_84 ⟨Nat.zero_le _, Nat.zero_le _⟩ hK hN hP hD hS hA (fun _ H locs hw_18 hP hD hS => ?_)
              obtain ⟨t_19, et_19⟩ : ∃ z, z = x_put (t.1 13 ((t.2.2.2 2) - 1)) 1 t := ⟨_, rfl⟩
              have hP : va_P (dC, dI) CLS (wS ad T t_19) H := by rw [et_19]; exact hP
              have hD : va_D A (wS ad T t_19) := by rw [et_19]; exact hD
              obtain ⟨_, _, _, _, _, _⟩ : N6p t_19 t := by rw [et_19]; exact nsix (x_put_N _ _ _)
              refine lv_goto (tgt := 157) hx hb de_B_read_87 (by decide) ?_
              have hfin : t_19 = x_read 13 a1 t := by
                subst_vars; unfold x_read; simp only [c_1, c_2, c_3, c_4, ↓reduceIte]
              rw [hfin] at hP hD
              subst hQ
              exact W.vret hx hb hr (fun t9 ht hW => ⟨⟨(), rfl, trivial, by rw [ht]; exact hP, va_K.moved hW.alike hK, hD⟩, hS.F ht⟩) hS.2.2 de_B_read_157
          · skip
            have c_3 : i = 0 := (nz0 (by omega)).mp c_3
            refine lv_aload hx hb de_B_read_52 (lv_at hl 3 rfl) ?_
            refine lv_aload_n hx hb de_B_read_54 rfl (lv_at hl 1 rfl) ?_
            refine lv_iconst (v := 0) hx hb de_B_read_55 (by decide) ?_
            refine rw_lald (f := t.1 13) (j := 0) hx hb hK hP 22 0 rfl rfl (by decide) (by decide) de_B_read_56 ?_
            refine lv_lconst (v := 1) hx hb de_B_read_57 (by decide) ?_
            refine cl_Vv (As := [.long (t.1 13 0), .long 1]) (rest := []) ⟨hx, hb, hml, hown, hts⟩ (mt_F_put l dC dI ad T t (t.1 13 0) 1) (cwV 2 hts (uw_V uw_384 uw_377 uw_378 uw_35 uw_379) rfl rfl rfl (by decide +kernel) ⟨Nat.le_of_ble_eq_true rfl, Nat.le_of_ble_eq_true rfl⟩) (va_recv hK hP (ci := 8) (q0 := 8) rfl rfl) rfl hl.1 rfl (by decide) de_B_read_58 ⟨Nat.zero_le _, Nat.zero_le _⟩ hK hN hP hD hS hA (fun _ H locs hw_20 hP hD hS => ?_)
            obtain ⟨t_21, et_21⟩ : ∃ z, z = x_put (t.1 13 0) 1 t := ⟨_, rfl⟩
            have hP : va_P (dC, dI) CLS (wS ad T t_21) H := by rw [et_21]; exact hP
            have hD : va_D A (wS ad T t_21) := by rw [et_21]; exact hD
            obtain ⟨_, _, _, _, _, _⟩ : N6p t_21 t := by rw [et_21]; exact nsix (x_put_N _ _ _)
            refine lv_goto (tgt := 157) hx hb de_B_read_61 (by decide) ?_
            have hfin : t_21 = x_read 13 a1 t := by
              subst_vars; unfold x_read; simp only [c_1, c_2, c_3, ↓reduceIte]
            rw [hfin] at hP hD
            subst hQ
            exact W.vret hx hb hr (fun t9 ht hW => ⟨⟨(), rfl, trivial, by rw [ht]; exact hP, va_K.moved hW.alike hK, hD⟩, hS.F ht⟩) hS.2.2 de_B_read_157
        · skip
          have c_2 : (t.2.2.2 2) = 0 := (nz0 (by omega)).mp c_2
          refine lv_aload hx hb de_B_read_37 (lv_at hl 3 rfl) ?_
          refine lv_lconst (v := 0) hx hb de_B_read_39 (by decide) ?_
          refine lv_lconst (v := 1) hx hb de_B_read_40 (by decide) ?_
          refine cl_Vv (As := [.long 0, .long 1]) (rest := []) ⟨hx, hb, hml, hown, hts⟩ (mt_F_put l dC dI ad T t 0 1) (cwV 2 hts (uw_V uw_384 uw_377 uw_378 uw_35 uw_379) rfl rfl rfl (by decide +kernel) ⟨Nat.le_of_ble_eq_true rfl, Nat.le_of_ble_eq_true rfl⟩) (va_recv hK hP (ci := 8) (q0 := 8) rfl rfl) rfl hl.1 rfl (by decide) de_B_read_41 ⟨Nat.zero_le _, Nat.zero_le _⟩ hK hN hP hD hS hA (fun _ H locs hw_22 hP hD hS => ?_)
          obtain ⟨t_23, et_23⟩ : ∃ z, z = x_put 0 1 t := ⟨_, rfl⟩
          have hP : va_P (dC, dI) CLS (wS ad T t_23) H := by rw [et_23]; exact hP
          have hD : va_D A (wS ad T t_23) := by rw [et_23]; exact hD
          obtain ⟨_, _, _, _, _, _⟩ : N6p t_23 t := by rw [et_23]; exact nsix (x_put_N _ _ _)
          refine lv_goto (tgt := 157) hx hb de_B_read_44 (by decide) ?_
          have hfin : t_23 = x_read 13 a1 t := by
            subst_vars; unfold x_read; simp only [c_1, c_2, ↓reduceIte]
          rw [hfin] at hP hD
          subst hQ
          exact W.vret hx hb hr (fun t9 ht hW => ⟨⟨(), rfl, trivial, by rw [ht]; exact hP, va_K.moved hW.alike hK, hD⟩, hS.F ht⟩) hS.2.2 de_B_read_157
      · skip
        have c_1 : ¬ ((t.2.2.2 2) ≤ i) := fun z => c_1 ((nI_leI (a := (t.2.2.2 2)) (b := i) (by omega) (by omega)).mpr z)
        exfalso; omega
    | succ n ih =>
      intro i hi hq H locs ls hP hD hS hl
      refine lv_iload hx hb de_B_read_3 (lv_at hl 4 rfl) ?_
      refine lv_aload_n hx hb de_B_read_5 rfl (lv_at hl 0 rfl) ?_
      refine va_get (D := (dC, dI)) (ci := 3) (v := .int (nI (t.2.2.2 2))) (C := "StabilitySums$Table") (T := TB_B) (N := 4) hx hb hts ui_B hown hK hP 3 rfl rfl 3 (by decide) (hts _ uw_134) (fun _ h9 => h9) rfl de_B_read_6 ?_
      refine lv_icmp_ge (tgt := 30) hx hb de_B_read_9 (by decide) (fun c_24 => ?_) (fun c_24 => ?_)
      · skip
        have c_24 : (t.2.2.2 2) ≤ i := (nI_leI (a := (t.2.2.2 2)) (b := i) (by omega) (by omega)).mp c_24
        exfalso; omega
      · skip
        have c_24 : ¬ ((t.2.2.2 2) ≤ i) := fun z => c_24 ((nI_leI (a := (t.2.2.2 2)) (b := i) (by omega) (by omega)).mpr z)
        refine lv_aload_n hx hb de_B_read_12 rfl (lv_at hl 0 rfl) ?_
        refine va_get (D := (dC, dI)) (ci := 3) (v := .ref (ad 21)) (C := "StabilitySums$Table") (T := TB_B) (N := 4) hx hb hts ui_B hown hK hP 3 rfl rfl 0 (by decide) (hts _ uw_129) (fun _ h9 => h9) rfl de_B_read_13 ?_
        refine lv_iload hx hb de_B_read_16 (lv_at hl 4 rfl) ?_
        refine rw_lald (f := t.1 12) (j := i) hx hb hK hP 21 0 rfl rfl (by omega) (by decide) de_B_read_18 ?_
        refine lv_lload_n hx hb de_B_read_19 rfl (lv_at hl 2 rfl) ?_
        refine rw_ge (tgt := 30) hx hb de_B_read_20 de_B_read_21 (by decide) (fun c_25 => ?_) (fun c_25 => ?_)
        · skip
          have hi9 : i = x_abv t a1 (t.2.2.2 2) 0 := by rw [← hq]; first | rfl | (rw [x_abv, if_pos c_25])
          refine lv_aload_n hx hb de_B_read_30 rfl (lv_at hl 0 rfl) ?_
          refine va_get (D := (dC, dI)) (ci := 3) (v := .int (nI (t.2.2.2 2))) (C := "StabilitySums$Table") (T := TB_B) (N := 4) hx hb hts ui_B hown hK hP 3 rfl rfl 3 (by decide) (hts _ uw_134) (fun _ h9 => h9) rfl de_B_read_31 ?_
          refine lv_if_ne (tgt := 47) hx hb de_B_read_34 (by decide) (fun c_26 => ?_) (fun c_26 => ?_)
          · skip
            have c_26 : ¬ (t.2.2.2 2) = 0 := fun z => c_26 ((nz0 (by omega)).mpr z)
            refine lv_iload hx hb de_B_read_47 (lv_at hl 4 rfl) ?_
            refine lv_if_ne (tgt := 64) hx hb de_B_read_49 (by decide) (fun c_27 => ?_) (fun c_27 => ?_)
            · skip
              have c_27 : ¬ i = 0 := fun z => c_27 ((nz0 (by omega)).mpr z)
              refine lv_iload hx hb de_B_read_64 (lv_at hl 4 rfl) ?_
              refine lv_aload_n hx hb de_B_read_66 rfl (lv_at hl 0 rfl) ?_
              refine va_get (D := (dC, dI)) (ci := 3) (v := .int (nI (t.2.2.2 2))) (C := "StabilitySums$Table") (T := TB_B) (N := 4) hx hb hts ui_B hown hK hP 3 rfl rfl 3 (by decide) (hts _ uw_134) (fun _ h9 => h9) rfl de_B_read_67 ?_
              refine lv_icmp_ne (tgt := 90) hx hb de_B_read_70 (by decide) (fun c_28 => ?_) (fun c_28 => ?_)
              · skip
                have c_28 : ¬ (i = (t.2.2.2 2)) := fun z => c_28 ((nI_eq (a := i) (b := (t.2.2.2 2)) (by omega) (by omega)).mpr z)
                refine lv_aload_n hx hb de_B_read_90 rfl (lv_at hl 0 rfl) ?_
                refine va_get (D := (dC, dI)) (ci := 3) (v := .ref (ad 21)) (C := "StabilitySums$Table") (T := TB_B) (N := 4) hx hb hts ui_B hown hK hP 3 rfl rfl 0 (by decide) (hts _ uw_129) (fun _ h9 => h9) rfl de_B_read_91 ?_
                refine lv_iload hx hb de_B_read_94 (lv_at hl 4 rfl) ?_
                refine rw_lald (f := t.1 12) (j := i) hx hb hK hP 21 0 rfl rfl (by omega) (by decide) de_B_read_96 ?_
                refine lv_aload_n hx hb de_B_read_97 rfl (lv_at hl 0 rfl) ?_
                refine va_get (D := (dC, dI)) (ci := 3) (v := .ref (ad 21)) (C := "StabilitySums$Table") (T := TB_B) (N := 4) hx hb hts ui_B hown hK hP 3 rfl rfl 0 (by decide) (hts _ uw_129) (fun _ h9 => h9) rfl de_B_read_98 ?_
                refine lv_iload hx hb de_B_read_101 (lv_at hl 4 rfl) ?_
                refine lv_iconst (v := 1) hx hb de_B_read_103 (by decide) ?_
                refine lv_isub hx hb de_B_read_104 ?_
                refine lv_topi (fun v_29 ev_29 => ?_)
                have ev_29 : v_29 = (nI (i - 1)) := ev_29.trans (pk_sub (a := i) (b := 1) (by omega))
                subst ev_29
                refine rw_lald (f := t.1 12) (j := (i - 1)) hx hb hK hP 21 0 rfl rfl (by omega) (by decide) de_B_read_105 ?_
                refine lv_lsub hx hb de_B_read_106 ?_
                refine lv_topl (fun v_30 ev_30 => ?_)
                have ev_30 : v_30 = (t.1 12 i) - (t.1 12 (i - 1)) := ev_30
                refine lv_lstore (lv' := [(6, .long v_30), (0, .ref (ad 3)), (1, .ref (ad 22)), (2, .long a1), (4, .ref (ad 8)), (5, .int (nI i))]) hx hb de_B_read_107 hl (by decide) rfl (fun ls hl => ?_)
                refine lv_lload_n hx hb de_B_read_109 rfl (lv_at hl 3 rfl) ?_
                refine lv_aload_n hx hb de_B_read_110 rfl (lv_at hl 1 rfl) ?_
                refine va_get (D := (dC, dI)) (ci := 3) (v := .ref (ad 21)) (C := "StabilitySums$Table") (T := TB_B) (N := 4) hx hb hts ui_B hown hK hP 3 rfl rfl 0 (by decide) (hts _ uw_129) (fun _ h9 => h9) rfl de_B_read_111 ?_
                refine lv_iload hx hb de_B_read_114 (lv_at hl 5 rfl) ?_
                refine lv_iconst (v := 1) hx hb de_B_read_116 (by decide) ?_
                refine lv_isub hx hb de_B_read_117 ?_
                refine lv_topi (fun v_31 ev_31 => ?_)
                have ev_31 : v_31 = (nI (i - 1)) := ev_31.trans (pk_sub (a := i) (b := 1) (by omega))
                subst ev_31
                refine rw_lald (f := t.1 12) (j := (i - 1)) hx hb hK hP 21 0 rfl rfl (by omega) (by decide) de_B_read_118 ?_
                refine lv_lsub hx hb de_B_read_119 ?_
                refine lv_topl (fun v_32 ev_32 => ?_)
                have ev_32 : v_32 = a1 - (t.1 12 (i - 1)) := ev_32
                refine lv_lstore (lv' := [(8, .long v_32), (6, .long v_30), (0, .ref (ad 3)), (1, .ref (ad 22)), (2, .long a1), (4, .ref (ad 8)), (5, .int (nI i))]) hx hb de_B_read_120 hl (by decide) rfl (fun ls hl => ?_)
                refine lv_aload_n hx hb de_B_read_122 rfl (lv_at hl 3 rfl) ?_
                refine lv_iload hx hb de_B_read_123 (lv_at hl 6 rfl) ?_
                refine rw_lald (f := t.1 13) (j := i) hx hb hK hP 22 0 rfl rfl (by omega) (by decide) de_B_read_125 ?_
                refine lv_aload_n hx hb de_B_read_126 rfl (lv_at hl 3 rfl) ?_
                refine lv_iload hx hb de_B_read_127 (lv_at hl 6 rfl) ?_
                refine lv_iconst (v := 1) hx hb de_B_read_129 (by decide) ?_
                refine lv_isub hx hb de_B_read_130 ?_
                refine lv_topi (fun v_33 ev_33 => ?_)
                have ev_33 : v_33 = (nI (i - 1)) := ev_33.trans (pk_sub (a := i) (b := 1) (by omega))
                subst ev_33
                refine rw_lald (f := t.1 13) (j := (i - 1)) hx hb hK hP 22 0 rfl rfl (by omega) (by decide) de_B_read_131 ?_
                refine lv_lsub hx hb de_B_read_132 ?_
                refine lv_topl (fun v_34 ev_34 => ?_)
                have ev_34 : v_34 = (t.1 13 i) - (t.1 13 (i - 1)) := ev_34
                refine lv_lstore (lv' := [(10, .long v_34), (8, .long v_32), (6, .long v_30), (0, .ref (ad 3)), (1, .ref (ad 22)), (2, .long a1), (4, .ref (ad 8)), (5, .int (nI i))]) hx hb de_B_read_133 hl (by decide) rfl (fun ls hl => ?_)
                refine lv_aload hx hb de_B_read_135 (lv_at hl 6 rfl) ?_
                refine lv_aload_n hx hb de_B_read_137 rfl (lv_at hl 4 rfl) ?_
                refine lv_iload hx hb de_B_read_138 (lv_at hl 7 rfl) ?_
                refine lv_iconst (v := 1) hx hb de_B_read_140 (by decide) ?_
                refine lv_isub hx hb de_B_read_141 ?_
                refine lv_topi (fun v_35 ev_35 => ?_)
                have ev_35 : v_35 = (nI (i - 1)) := ev_35.trans (pk_sub (a := i) (b := 1) (by omega))
                subst ev_35
                refine rw_lald (f := t.1 13) (j := (i - 1)) hx hb hK hP 22 0 rfl rfl (by omega) (by decide) de_B_read_142 ?_
                refine lv_lload hx hb de_B_read_143 (lv_at hl 2 rfl) ?_
                refine lv_lmul hx hb de_B_read_145 ?_
                refine lv_topl (fun v_36 ev_36 => ?_)
                have ev_36 : v_36 = (t.1 13 (i - 1)) * v_30 := ev_36
                refine lv_lload hx hb de_B_read_146 (lv_at hl 0 rfl) ?_
                refine lv_lload hx hb de_B_read_148 (lv_at hl 1 rfl) ?_
                refine lv_lmul hx hb de_B_read_150 ?_
                refine lv_topl (fun v_37 ev_37 => ?_)
                have ev_37 : v_37 = v_34 * v_32 := ev_37
                refine lv_ladd hx hb de_B_read_151 ?_
                refine lv_topl (fun v_38 ev_38 => ?_)
                have ev_38 : v_38 = v_36 + v_37 := ev_38
                refine lv_lload hx hb de_B_read_152 (lv_at hl 2 rfl) ?_
                refine cl_Vv (As := [.long v_38, .long v_30]) (rest := []) ⟨hx, hb, hml, hown, hts⟩ (mt_F_put l dC dI ad T t v_38 v_30) (cwV 2 hts (uw_V uw_384 uw_377 uw_378 uw_35 uw_379) rfl rfl rfl (by decide +kernel) ⟨Nat.le_of_ble_eq_true rfl, Nat.le_of_ble_eq_true rfl⟩) (va_recv hK hP (ci := 8) (q0 := 8) rfl rfl) rfl hl.1 rfl (by decide) de_B_read_154 ⟨Nat.zero_le _, Nat.zero_le _⟩ hK hN hP hD hS hA (fun _ H locs hw_39 hP hD hS => ?_)
                obtain ⟨t_40, et_40⟩ : ∃ z, z = x_put v_38 v_30 t := ⟨_, rfl⟩
                have hP : va_P (dC, dI) CLS (wS ad T t_40) H := by rw [et_40]; exact hP
                have hD : va_D A (wS ad T t_40) := by rw [et_40]; exact hD
                obtain ⟨_, _, _, _, _, _⟩ : N6p t_40 t := by rw [et_40]; exact nsix (x_put_N _ _ _)
                have hfin : t_40 = x_read 13 a1 t := by
                  subst_vars; unfold x_read; simp only [c_24, c_25, c_26, c_27, c_28, ↓reduceIte]
                rw [hfin] at hP hD
                subst hQ
                exact W.vret hx hb hr (fun t9 ht hW => ⟨⟨(), rfl, trivial, by rw [ht]; exact hP, va_K.moved hW.alike hK, hD⟩, hS.F ht⟩) hS.2.2 de_B_read_157
              · skip
                have c_28 : i = (t.2.2.2 2) := (nI_eq (a := i) (b := (t.2.2.2 2)) (by omega) (by omega)).mp c_28
                refine lv_aload hx hb de_B_read_73 (lv_at hl 3 rfl) ?_
                refine lv_aload_n hx hb de_B_read_75 rfl (lv_at hl 1 rfl) ?_
                refine lv_aload_n hx hb de_B_read_76 rfl (lv_at hl 0 rfl) ?_
                refine va_get (D := (dC, dI)) (ci := 3) (v := .int (nI (t.2.2.2 2))) (C := "StabilitySums$Table") (T := TB_B) (N := 4) hx hb hts ui_B hown hK hP 3 rfl rfl 3 (by decide) (hts _ uw_134) (fun _ h9 => h9) rfl de_B_read_77 ?_
                refine lv_iconst (v := 1) hx hb de_B_read_80 (by decide) ?_
                refine lv_isub hx hb de_B_read_81 ?_
                refine lv_topi (fun v_41 ev_41 => ?_)
                have ev_41 : v_41 = (nI ((t.2.2.2 2) - 1)) := ev_41.trans (pk_sub (a := (t.2.2.2 2)) (b := 1) (by omega))
                subst ev_41
                refine rw_lald (f := t.1 13) (j := ((t.2.2.2 2) - 1)) hx hb hK hP 22 0 rfl rfl (by omega) (by decide) de_B_read_82 ?_
                refine lv_lconst (v := 1) hx hb de_B_read_83 (by decide) ?_
                refine cl_Vv (As := [.long (t.1 13 ((t.2.2.2 2) - 1)), .long 1]) (rest := []) ⟨hx, hb, hml, hown, hts⟩ (mt_F_put l dC dI ad T t (t.1 13 ((t.2.2.2 2) - 1)) 1) (cwV 2 hts (uw_V uw_384 uw_377 uw_378 uw_35 uw_379) rfl rfl rfl (by decide +kernel) ⟨Nat.le_of_ble_eq_true rfl, Nat.le_of_ble_eq_true rfl⟩) (va_recv hK hP (ci := 8) (q0 := 8) rfl rfl) rfl hl.1 rfl (by decide) de_B_read_84 ⟨Nat.zero_le _, Nat.zero_le _⟩ hK hN hP hD hS hA (fun _ H locs hw_42 hP hD hS => ?_)
                obtain ⟨t_43, et_43⟩ : ∃ z, z = x_put (t.1 13 ((t.2.2.2 2) - 1)) 1 t := ⟨_, rfl⟩
                have hP : va_P (dC, dI) CLS (wS ad T t_43) H := by rw [et_43]; exact hP
                have hD : va_D A (wS ad T t_43) := by rw [et_43]; exact hD
                obtain ⟨_, _, _, _, _, _⟩ : N6p t_43 t := by rw [et_43]; exact nsix (x_put_N _ _ _)
                refine lv_goto (tgt := 157) hx hb de_B_read_87 (by decide) ?_
                have hfin : t_43 = x_read 13 a1 t := by
                  subst_vars; unfold x_read; simp only [c_24, c_25, c_26, c_27, c_28, ↓reduceIte]
                rw [hfin] at hP hD
                subst hQ
                exact W.vret hx hb hr (fun t9 ht hW => ⟨⟨(), rfl, trivial, by rw [ht]; exact hP, va_K.moved hW.alike hK, hD⟩, hS.F ht⟩) hS.2.2 de_B_read_157
            · skip
              have c_27 : i = 0 := (nz0 (by omega)).mp c_27
              refine lv_aload hx hb de_B_read_52 (lv_at hl 3 rfl) ?_
              refine lv_aload_n hx hb de_B_read_54 rfl (lv_at hl 1 rfl) ?_
              refine lv_iconst (v := 0) hx hb de_B_read_55 (by decide) ?_
              refine rw_lald (f := t.1 13) (j := 0) hx hb hK hP 22 0 rfl rfl (by decide) (by decide) de_B_read_56 ?_
              refine lv_lconst (v := 1) hx hb de_B_read_57 (by decide) ?_
              refine cl_Vv (As := [.long (t.1 13 0), .long 1]) (rest := []) ⟨hx, hb, hml, hown, hts⟩ (mt_F_put l dC dI ad T t (t.1 13 0) 1) (cwV 2 hts (uw_V uw_384 uw_377 uw_378 uw_35 uw_379) rfl rfl rfl (by decide +kernel) ⟨Nat.le_of_ble_eq_true rfl, Nat.le_of_ble_eq_true rfl⟩) (va_recv hK hP (ci := 8) (q0 := 8) rfl rfl) rfl hl.1 rfl (by decide) de_B_read_58 ⟨Nat.zero_le _, Nat.zero_le _⟩ hK hN hP hD hS hA (fun _ H locs hw_44 hP hD hS => ?_)
              obtain ⟨t_45, et_45⟩ : ∃ z, z = x_put (t.1 13 0) 1 t := ⟨_, rfl⟩
              have hP : va_P (dC, dI) CLS (wS ad T t_45) H := by rw [et_45]; exact hP
              have hD : va_D A (wS ad T t_45) := by rw [et_45]; exact hD
              obtain ⟨_, _, _, _, _, _⟩ : N6p t_45 t := by rw [et_45]; exact nsix (x_put_N _ _ _)
              refine lv_goto (tgt := 157) hx hb de_B_read_61 (by decide) ?_
              have hfin : t_45 = x_read 13 a1 t := by
                subst_vars; unfold x_read; simp only [c_24, c_25, c_26, c_27, ↓reduceIte]
              rw [hfin] at hP hD
              subst hQ
              exact W.vret hx hb hr (fun t9 ht hW => ⟨⟨(), rfl, trivial, by rw [ht]; exact hP, va_K.moved hW.alike hK, hD⟩, hS.F ht⟩) hS.2.2 de_B_read_157
          · skip
            have c_26 : (t.2.2.2 2) = 0 := (nz0 (by omega)).mp c_26
            refine lv_aload hx hb de_B_read_37 (lv_at hl 3 rfl) ?_
            refine lv_lconst (v := 0) hx hb de_B_read_39 (by decide) ?_
            refine lv_lconst (v := 1) hx hb de_B_read_40 (by decide) ?_
            refine cl_Vv (As := [.long 0, .long 1]) (rest := []) ⟨hx, hb, hml, hown, hts⟩ (mt_F_put l dC dI ad T t 0 1) (cwV 2 hts (uw_V uw_384 uw_377 uw_378 uw_35 uw_379) rfl rfl rfl (by decide +kernel) ⟨Nat.le_of_ble_eq_true rfl, Nat.le_of_ble_eq_true rfl⟩) (va_recv hK hP (ci := 8) (q0 := 8) rfl rfl) rfl hl.1 rfl (by decide) de_B_read_41 ⟨Nat.zero_le _, Nat.zero_le _⟩ hK hN hP hD hS hA (fun _ H locs hw_46 hP hD hS => ?_)
            obtain ⟨t_47, et_47⟩ : ∃ z, z = x_put 0 1 t := ⟨_, rfl⟩
            have hP : va_P (dC, dI) CLS (wS ad T t_47) H := by rw [et_47]; exact hP
            have hD : va_D A (wS ad T t_47) := by rw [et_47]; exact hD
            obtain ⟨_, _, _, _, _, _⟩ : N6p t_47 t := by rw [et_47]; exact nsix (x_put_N _ _ _)
            refine lv_goto (tgt := 157) hx hb de_B_read_44 (by decide) ?_
            have hfin : t_47 = x_read 13 a1 t := by
              subst_vars; unfold x_read; simp only [c_24, c_25, c_26, ↓reduceIte]
            rw [hfin] at hP hD
            subst hQ
            exact W.vret hx hb hr (fun t9 ht hW => ⟨⟨(), rfl, trivial, by rw [ht]; exact hP, va_K.moved hW.alike hK, hD⟩, hS.F ht⟩) hS.2.2 de_B_read_157
        · skip
          refine lv_iinc (v := (nI (i + 1))) (lv' := [(5, .int (nI (i + 1))), (0, .ref (ad 3)), (1, .ref (ad 22)), (2, .long a1), (4, .ref (ad 8))]) hx hb de_B_read_24 hl (k := 4) rfl (nI_1 i) (by decide) rfl (fun ls hl => ?_)
          refine lv_goto (tgt := 3) hx hb de_B_read_27 (by decide) ?_
          exact ih (i + 1) (by omega) (by rw [← hq, x_abv, if_neg c_25]) H locs ls hP hD hS (lv_sub hl [1, 2, 3, 4, 0] rfl)
  exact loop_3 (t.2.2.2 2) 0 (by omega) rfl _ _ ls hP hD hS (lv_sub hl [1, 2, 3, 4, 0] rfl)
set_option maxHeartbeats 4000000 in
set_option maxRecDepth 100000 in
theorem mt_B_read14 (l : Launch) (dC : Nat → ClassId) (dI : Nat → Nat → Nat) (ad : Nat → Nat) (T : Nat → ClassId) (t : St) (a1 : Int64) (hc : t.2.2.2 2 ≤ 12) (sz : Nat) : Met l yn_B_read (.code yn_B_read cd_B_read 12 none :: UW) ({ frames := 1, cells := 0, slots := 0, locals := 24 } : Room) (va_Pc [.ref (ad 3), .ref (ad 23), .long a1, .ref (ad 8)] (Pw (dC, dI) CLS (TY T) (wS ad T t) sz)) (va_Qv (fun _ : Unit => True) (Bw (dC, dI) CLS (TY T) (fun _ : Unit => (wS ad T (x_read 14 a1 t))) (va_A (wS ad T t) sz)) (va_A (wS ad T t) sz)) 0 0 (va_A (wS ad T t) sz) := by
  refine Met.ofW (cc := cd_B_read) (maxL := 12) (ret := none) (by decide) rfl ?_
  intro p e s m args below meth c s₁ B hml hv
  obtain ⟨rfl, hsz, hP, hK, hD0, hN⟩ := hv
  have hx := B.exec
  have hb := B.bytes
  have hr := B.returns
  have hts : ∀ w ∈ UW, w.before _ s = true := fun w h => atoms_spec (ws := .code yn_B_read cd_B_read 12 none :: UW) B.pre w (List.mem_cons_of_mem _ h)
  have hown : s.vm.findClass "StabilitySums$Table" = some m.cls := findClass_of_methodNamed B.named
  have hlocks := B.notSynchronized
  subst hsz
  have hD := hD0.self (sz := s.heap.size)
  generalize hAe : va_A (wS ad T t) s.heap.size = A at hD ⊢
  have hA : ∀ q : Nat, s.heap.size ≤ q → A q := fun q h => by rw [← hAe]; exact Or.inr h
  have hS : va_S A s.heap s.heap [] := va_S.rf
  have hl := lv_entry ([.ref (ad 3), .ref (ad 23), .long a1, .ref (ad 8)]) (n := 12) (Nat.le_of_ble_eq_true rfl)
  rw [lg_entry_eq]
  generalize (lg_sl ([.ref (ad 3), .ref (ad 23), .long a1, .ref (ad 8)]) ++ List.replicate (12 - (lg_sl ([.ref (ad 3), .ref (ad 23), .long a1, .ref (ad 8)])).length) Slot.unset).toArray = ls at hl ⊢
  have hl : lv_has ls 12 [(0, .ref (ad 3)), (1, .ref (ad 23)), (2, .long a1), (4, .ref (ad 8))] := hl
  generalize hQ : MQ below _ _ s 0 0 A = Q
  refine lv_iconst (v := 0) hx hb de_B_read_0 (by decide) ?_
  refine lv_istore (lv' := [(5, .int 0), (0, .ref (ad 3)), (1, .ref (ad 23)), (2, .long a1), (4, .ref (ad 8))]) hx hb de_B_read_1 hl (by decide) rfl (fun ls hl => ?_)
  have loop_3 : ∀ (n : Nat) (i : Nat), (i + n = t.2.2.2 2) → (x_abv t a1 n i = x_abv t a1 (t.2.2.2 2) 0) → ∀ (H : Heap) (locs : List Loc) (ls : Array Slot), va_P (dC, dI) CLS (wS ad T t) H → va_D A (wS ad T t) → va_S A s.heap H locs → lv_has ls 12 [(0, .ref (ad 3)), (1, .ref (ad 23)), (2, .long a1), (4, .ref (ad 8)), (5, .int (nI i))] → W p l e (headSpec (.code yn_B_read cd_B_read 12 none :: UW) ({ frames := 1, cells := 0, slots := 0, locals := 24 } : Room)).room s m ([.ref (ad 3), .ref (ad 23), .long a1, .ref (ad 8)] : List Value).toArray below meth c H locs 0 0 Q (F0 m 3 ls []) := by
    intro n
    induction n with
    | zero =>
      intro i hi hq H locs ls hP hD hS hl
      refine lv_iload hx hb de_B_read_3 (lv_at hl 4 rfl) ?_
      refine lv_aload_n hx hb de_B_read_5 rfl (lv_at hl 0 rfl) ?_
      refine va_get (D := (dC, dI)) (ci := 3) (v := .int (nI (t.2.2.2 2))) (C := "StabilitySums$Table") (T := TB_B) (N := 4) hx hb hts ui_B hown hK hP 3 rfl rfl 3 (by decide) (hts _ uw_134) (fun _ h9 => h9) rfl de_B_read_6 ?_
      refine lv_icmp_ge (tgt := 30) hx hb de_B_read_9 (by decide) (fun c_1 => ?_) (fun c_1 => ?_)
      · skip
        have c_1 : (t.2.2.2 2) ≤ i := (nI_leI (a := (t.2.2.2 2)) (b := i) (by omega) (by omega)).mp c_1
        have hi9 : i = x_abv t a1 (t.2.2.2 2) 0 := by rw [← hq]; first | rfl | (rw [x_abv, if_pos c_1])
        refine lv_aload_n hx hb de_B_read_30 rfl (lv_at hl 0 rfl) ?_
        refine va_get (D := (dC, dI)) (ci := 3) (v := .int (nI (t.2.2.2 2))) (C := "StabilitySums$Table") (T := TB_B) (N := 4) hx hb hts ui_B hown hK hP 3 rfl rfl 3 (by decide) (hts _ uw_134) (fun _ h9 => h9) rfl de_B_read_31 ?_
        refine lv_if_ne (tgt := 47) hx hb de_B_read_34 (by decide) (fun c_2 => ?_) (fun c_2 => ?_)
        · skip
          have c_2 : ¬ (t.2.2.2 2) = 0 := fun z => c_2 ((nz0 (by omega)).mpr z)
          refine lv_iload hx hb de_B_read_47 (lv_at hl 4 rfl) ?_
          refine lv_if_ne (tgt := 64) hx hb de_B_read_49 (by decide) (fun c_3 => ?_) (fun c_3 => ?_)
          · skip
            have c_3 : ¬ i = 0 := fun z => c_3 ((nz0 (by omega)).mpr z)
            refine lv_iload hx hb de_B_read_64 (lv_at hl 4 rfl) ?_
            refine lv_aload_n hx hb de_B_read_66 rfl (lv_at hl 0 rfl) ?_
            refine va_get (D := (dC, dI)) (ci := 3) (v := .int (nI (t.2.2.2 2))) (C := "StabilitySums$Table") (T := TB_B) (N := 4) hx hb hts ui_B hown hK hP 3 rfl rfl 3 (by decide) (hts _ uw_134) (fun _ h9 => h9) rfl de_B_read_67 ?_
            refine lv_icmp_ne (tgt := 90) hx hb de_B_read_70 (by decide) (fun c_4 => ?_) (fun c_4 => ?_)
            · skip
              have c_4 : ¬ (i = (t.2.2.2 2)) := fun z => c_4 ((nI_eq (a := i) (b := (t.2.2.2 2)) (by omega) (by omega)).mpr z)
              refine lv_aload_n hx hb de_B_read_90 rfl (lv_at hl 0 rfl) ?_
              refine va_get (D := (dC, dI)) (ci := 3) (v := .ref (ad 21)) (C := "StabilitySums$Table") (T := TB_B) (N := 4) hx hb hts ui_B hown hK hP 3 rfl rfl 0 (by decide) (hts _ uw_129) (fun _ h9 => h9) rfl de_B_read_91 ?_
              refine lv_iload hx hb de_B_read_94 (lv_at hl 4 rfl) ?_
              refine rw_lald (f := t.1 12) (j := i) hx hb hK hP 21 0 rfl rfl (by omega) (by decide) de_B_read_96 ?_
              refine lv_aload_n hx hb de_B_read_97 rfl (lv_at hl 0 rfl) ?_
              refine va_get (D := (dC, dI)) (ci := 3) (v := .ref (ad 21)) (C := "StabilitySums$Table") (T := TB_B) (N := 4) hx hb hts ui_B hown hK hP 3 rfl rfl 0 (by decide) (hts _ uw_129) (fun _ h9 => h9) rfl de_B_read_98 ?_
              refine lv_iload hx hb de_B_read_101 (lv_at hl 4 rfl) ?_
              refine lv_iconst (v := 1) hx hb de_B_read_103 (by decide) ?_
              refine lv_isub hx hb de_B_read_104 ?_
              refine lv_topi (fun v_5 ev_5 => ?_)
              have ev_5 : v_5 = (nI (i - 1)) := ev_5.trans (pk_sub (a := i) (b := 1) (by omega))
              subst ev_5
              refine rw_lald (f := t.1 12) (j := (i - 1)) hx hb hK hP 21 0 rfl rfl (by omega) (by decide) de_B_read_105 ?_
              refine lv_lsub hx hb de_B_read_106 ?_
              refine lv_topl (fun v_6 ev_6 => ?_)
              have ev_6 : v_6 = (t.1 12 i) - (t.1 12 (i - 1)) := ev_6
              refine lv_lstore (lv' := [(6, .long v_6), (0, .ref (ad 3)), (1, .ref (ad 23)), (2, .long a1), (4, .ref (ad 8)), (5, .int (nI i))]) hx hb de_B_read_107 hl (by decide) rfl (fun ls hl => ?_)
              refine lv_lload_n hx hb de_B_read_109 rfl (lv_at hl 3 rfl) ?_
              refine lv_aload_n hx hb de_B_read_110 rfl (lv_at hl 1 rfl) ?_
              refine va_get (D := (dC, dI)) (ci := 3) (v := .ref (ad 21)) (C := "StabilitySums$Table") (T := TB_B) (N := 4) hx hb hts ui_B hown hK hP 3 rfl rfl 0 (by decide) (hts _ uw_129) (fun _ h9 => h9) rfl de_B_read_111 ?_
              refine lv_iload hx hb de_B_read_114 (lv_at hl 5 rfl) ?_
              refine lv_iconst (v := 1) hx hb de_B_read_116 (by decide) ?_
              refine lv_isub hx hb de_B_read_117 ?_
              refine lv_topi (fun v_7 ev_7 => ?_)
              have ev_7 : v_7 = (nI (i - 1)) := ev_7.trans (pk_sub (a := i) (b := 1) (by omega))
              subst ev_7
              refine rw_lald (f := t.1 12) (j := (i - 1)) hx hb hK hP 21 0 rfl rfl (by omega) (by decide) de_B_read_118 ?_
              refine lv_lsub hx hb de_B_read_119 ?_
              refine lv_topl (fun v_8 ev_8 => ?_)
              have ev_8 : v_8 = a1 - (t.1 12 (i - 1)) := ev_8
              refine lv_lstore (lv' := [(8, .long v_8), (6, .long v_6), (0, .ref (ad 3)), (1, .ref (ad 23)), (2, .long a1), (4, .ref (ad 8)), (5, .int (nI i))]) hx hb de_B_read_120 hl (by decide) rfl (fun ls hl => ?_)
              refine lv_aload_n hx hb de_B_read_122 rfl (lv_at hl 3 rfl) ?_
              refine lv_iload hx hb de_B_read_123 (lv_at hl 6 rfl) ?_
              refine rw_lald (f := t.1 14) (j := i) hx hb hK hP 23 0 rfl rfl (by omega) (by decide) de_B_read_125 ?_
              refine lv_aload_n hx hb de_B_read_126 rfl (lv_at hl 3 rfl) ?_
              refine lv_iload hx hb de_B_read_127 (lv_at hl 6 rfl) ?_
              refine lv_iconst (v := 1) hx hb de_B_read_129 (by decide) ?_
              refine lv_isub hx hb de_B_read_130 ?_
              refine lv_topi (fun v_9 ev_9 => ?_)
              have ev_9 : v_9 = (nI (i - 1)) := ev_9.trans (pk_sub (a := i) (b := 1) (by omega))
              subst ev_9
              refine rw_lald (f := t.1 14) (j := (i - 1)) hx hb hK hP 23 0 rfl rfl (by omega) (by decide) de_B_read_131 ?_
              refine lv_lsub hx hb de_B_read_132 ?_
              refine lv_topl (fun v_10 ev_10 => ?_)
              have ev_10 : v_10 = (t.1 14 i) - (t.1 14 (i - 1)) := ev_10
              refine lv_lstore (lv' := [(10, .long v_10), (8, .long v_8), (6, .long v_6), (0, .ref (ad 3)), (1, .ref (ad 23)), (2, .long a1), (4, .ref (ad 8)), (5, .int (nI i))]) hx hb de_B_read_133 hl (by decide) rfl (fun ls hl => ?_)
              refine lv_aload hx hb de_B_read_135 (lv_at hl 6 rfl) ?_
              refine lv_aload_n hx hb de_B_read_137 rfl (lv_at hl 4 rfl) ?_
              refine lv_iload hx hb de_B_read_138 (lv_at hl 7 rfl) ?_
              refine lv_iconst (v := 1) hx hb de_B_read_140 (by decide) ?_
              refine lv_isub hx hb de_B_read_141 ?_
              refine lv_topi (fun v_11 ev_11 => ?_)
              have ev_11 : v_11 = (nI (i - 1)) := ev_11.trans (pk_sub (a := i) (b := 1) (by omega))
              subst ev_11
              refine rw_lald (f := t.1 14) (j := (i - 1)) hx hb hK hP 23 0 rfl rfl (by omega) (by decide) de_B_read_142 ?_
              refine lv_lload hx hb de_B_read_143 (lv_at hl 2 rfl) ?_
              refine lv_lmul hx hb de_B_read_145 ?_
              refine lv_topl (fun v_12 ev_12 => ?_)
              have ev_12 : v_12 = (t.1 14 (i - 1)) * v_6 := ev_12
              refine lv_lload hx hb de_B_read_146 (lv_at hl 0 rfl) ?_
              refine lv_lload hx hb de_B_read_148 (lv_at hl 1 rfl) ?_
              refine lv_lmul hx hb de_B_read_150 ?_
              refine lv_topl (fun v_13 ev_13 => ?_)
              have ev_13 : v_13 = v_10 * v_8 := ev_13
              refine lv_ladd hx hb de_B_read_151 ?_
              refine lv_topl (fun v_14 ev_14 => ?_)
              have ev_14 : v_14 = v_12 + v_13 := ev_14
              refine lv_lload hx hb de_B_read_152 (lv_at hl 2 rfl) ?_
              refine cl_Vv (As := [.long v_14, .long v_6]) (rest := []) ⟨hx, hb, hml, hown, hts⟩ (mt_F_put l dC dI ad T t v_14 v_6) (cwV 2 hts (uw_V uw_384 uw_377 uw_378 uw_35 uw_379) rfl rfl rfl (by decide +kernel) ⟨Nat.le_of_ble_eq_true rfl, Nat.le_of_ble_eq_true rfl⟩) (va_recv hK hP (ci := 8) (q0 := 8) rfl rfl) rfl hl.1 rfl (by decide) de_B_read_154 ⟨Nat.zero_le _, Nat.zero_le _⟩ hK hN hP hD hS hA (fun _ H locs hw_15 hP hD hS => ?_)
              obtain ⟨t_16, et_16⟩ : ∃ z, z = x_put v_14 v_6 t := ⟨_, rfl⟩
              have hP : va_P (dC, dI) CLS (wS ad T t_16) H := by rw [et_16]; exact hP
              have hD : va_D A (wS ad T t_16) := by rw [et_16]; exact hD
              obtain ⟨_, _, _, _, _, _⟩ : N6p t_16 t := by rw [et_16]; exact nsix (x_put_N _ _ _)
              have hfin : t_16 = x_read 14 a1 t := by
                subst_vars; unfold x_read; simp only [c_1, c_2, c_3, c_4, ↓reduceIte]
              rw [hfin] at hP hD
              subst hQ
              exact W.vret hx hb hr (fun t9 ht hW => ⟨⟨(), rfl, trivial, by rw [ht]; exact hP, va_K.moved hW.alike hK, hD⟩, hS.F ht⟩) hS.2.2 de_B_read_157
            · skip
              have c_4 : i = (t.2.2.2 2) := (nI_eq (a := i) (b := (t.2.2.2 2)) (by omega) (by omega)).mp c_4
              refine lv_aload hx hb de_B_read_73 (lv_at hl 3 rfl) ?_
              refine lv_aload_n hx hb de_B_read_75 rfl (lv_at hl 1 rfl) ?_
              refine lv_aload_n hx hb de_B_read_76 rfl (lv_at hl 0 rfl) ?_
              refine va_get (D := (dC, dI)) (ci := 3) (v := .int (nI (t.2.2.2 2))) (C := "StabilitySums$Table") (T := TB_B) (N := 4) hx hb hts ui_B hown hK hP 3 rfl rfl 3 (by decide) (hts _ uw_134) (fun _ h9 => h9) rfl de_B_read_77 ?_
              refine lv_iconst (v := 1) hx hb de_B_read_80 (by decide) ?_
              refine lv_isub hx hb de_B_read_81 ?_
              refine lv_topi (fun v_17 ev_17 => ?_)
              have ev_17 : v_17 = (nI ((t.2.2.2 2) - 1)) := ev_17.trans (pk_sub (a := (t.2.2.2 2)) (b := 1) (by omega))
              subst ev_17
              refine rw_lald (f := t.1 14) (j := ((t.2.2.2 2) - 1)) hx hb hK hP 23 0 rfl rfl (by omega) (by decide) de_B_read_82 ?_
              refine lv_lconst (v := 1) hx hb de_B_read_83 (by decide) ?_
              refine cl_Vv (As := [.long (t.1 14 ((t.2.2.2 2) - 1)), .long 1]) (rest := []) ⟨hx, hb, hml, hown, hts⟩ (mt_F_put l dC dI ad T t (t.1 14 ((t.2.2.2 2) - 1)) 1) (cwV 2 hts (uw_V uw_384 uw_377 uw_378 uw_35 uw_379) rfl rfl rfl (by decide +kernel) ⟨Nat.le_of_ble_eq_true rfl, Nat.le_of_ble_eq_true rfl⟩) (va_recv hK hP (ci := 8) (q0 := 8) rfl rfl) rfl hl.1 rfl (by decide) de_B_read_84 ⟨Nat.zero_le _, Nat.zero_le _⟩ hK hN hP hD hS hA (fun _ H locs hw_18 hP hD hS => ?_)
              obtain ⟨t_19, et_19⟩ : ∃ z, z = x_put (t.1 14 ((t.2.2.2 2) - 1)) 1 t := ⟨_, rfl⟩
              have hP : va_P (dC, dI) CLS (wS ad T t_19) H := by rw [et_19]; exact hP
              have hD : va_D A (wS ad T t_19) := by rw [et_19]; exact hD
              obtain ⟨_, _, _, _, _, _⟩ : N6p t_19 t := by rw [et_19]; exact nsix (x_put_N _ _ _)
              refine lv_goto (tgt := 157) hx hb de_B_read_87 (by decide) ?_
              have hfin : t_19 = x_read 14 a1 t := by
                subst_vars; unfold x_read; simp only [c_1, c_2, c_3, c_4, ↓reduceIte]
              rw [hfin] at hP hD
              subst hQ
              exact W.vret hx hb hr (fun t9 ht hW => ⟨⟨(), rfl, trivial, by rw [ht]; exact hP, va_K.moved hW.alike hK, hD⟩, hS.F ht⟩) hS.2.2 de_B_read_157
          · skip
            have c_3 : i = 0 := (nz0 (by omega)).mp c_3
            refine lv_aload hx hb de_B_read_52 (lv_at hl 3 rfl) ?_
            refine lv_aload_n hx hb de_B_read_54 rfl (lv_at hl 1 rfl) ?_
            refine lv_iconst (v := 0) hx hb de_B_read_55 (by decide) ?_
            refine rw_lald (f := t.1 14) (j := 0) hx hb hK hP 23 0 rfl rfl (by decide) (by decide) de_B_read_56 ?_
            refine lv_lconst (v := 1) hx hb de_B_read_57 (by decide) ?_
            refine cl_Vv (As := [.long (t.1 14 0), .long 1]) (rest := []) ⟨hx, hb, hml, hown, hts⟩ (mt_F_put l dC dI ad T t (t.1 14 0) 1) (cwV 2 hts (uw_V uw_384 uw_377 uw_378 uw_35 uw_379) rfl rfl rfl (by decide +kernel) ⟨Nat.le_of_ble_eq_true rfl, Nat.le_of_ble_eq_true rfl⟩) (va_recv hK hP (ci := 8) (q0 := 8) rfl rfl) rfl hl.1 rfl (by decide) de_B_read_58 ⟨Nat.zero_le _, Nat.zero_le _⟩ hK hN hP hD hS hA (fun _ H locs hw_20 hP hD hS => ?_)
            obtain ⟨t_21, et_21⟩ : ∃ z, z = x_put (t.1 14 0) 1 t := ⟨_, rfl⟩
            have hP : va_P (dC, dI) CLS (wS ad T t_21) H := by rw [et_21]; exact hP
            have hD : va_D A (wS ad T t_21) := by rw [et_21]; exact hD
            obtain ⟨_, _, _, _, _, _⟩ : N6p t_21 t := by rw [et_21]; exact nsix (x_put_N _ _ _)
            refine lv_goto (tgt := 157) hx hb de_B_read_61 (by decide) ?_
            have hfin : t_21 = x_read 14 a1 t := by
              subst_vars; unfold x_read; simp only [c_1, c_2, c_3, ↓reduceIte]
            rw [hfin] at hP hD
            subst hQ
            exact W.vret hx hb hr (fun t9 ht hW => ⟨⟨(), rfl, trivial, by rw [ht]; exact hP, va_K.moved hW.alike hK, hD⟩, hS.F ht⟩) hS.2.2 de_B_read_157
        · skip
          have c_2 : (t.2.2.2 2) = 0 := (nz0 (by omega)).mp c_2
          refine lv_aload hx hb de_B_read_37 (lv_at hl 3 rfl) ?_
          refine lv_lconst (v := 0) hx hb de_B_read_39 (by decide) ?_
          refine lv_lconst (v := 1) hx hb de_B_read_40 (by decide) ?_
          refine cl_Vv (As := [.long 0, .long 1]) (rest := []) ⟨hx, hb, hml, hown, hts⟩ (mt_F_put l dC dI ad T t 0 1) (cwV 2 hts (uw_V uw_384 uw_377 uw_378 uw_35 uw_379) rfl rfl rfl (by decide +kernel) ⟨Nat.le_of_ble_eq_true rfl, Nat.le_of_ble_eq_true rfl⟩) (va_recv hK hP (ci := 8) (q0 := 8) rfl rfl) rfl hl.1 rfl (by decide) de_B_read_41 ⟨Nat.zero_le _, Nat.zero_le _⟩ hK hN hP hD hS hA (fun _ H locs hw_22 hP hD hS => ?_)
          obtain ⟨t_23, et_23⟩ : ∃ z, z = x_put 0 1 t := ⟨_, rfl⟩
          have hP : va_P (dC, dI) CLS (wS ad T t_23) H := by rw [et_23]; exact hP
          have hD : va_D A (wS ad T t_23) := by rw [et_23]; exact hD
          obtain ⟨_, _, _, _, _, _⟩ : N6p t_23 t := by rw [et_23]; exact nsix (x_put_N _ _ _)
          refine lv_goto (tgt := 157) hx hb de_B_read_44 (by decide) ?_
          have hfin : t_23 = x_read 14 a1 t := by
            subst_vars; unfold x_read; simp only [c_1, c_2, ↓reduceIte]
          rw [hfin] at hP hD
          subst hQ
          exact W.vret hx hb hr (fun t9 ht hW => ⟨⟨(), rfl, trivial, by rw [ht]; exact hP, va_K.moved hW.alike hK, hD⟩, hS.F ht⟩) hS.2.2 de_B_read_157
      · skip
        have c_1 : ¬ ((t.2.2.2 2) ≤ i) := fun z => c_1 ((nI_leI (a := (t.2.2.2 2)) (b := i) (by omega) (by omega)).mpr z)
        exfalso; omega
    | succ n ih =>
      intro i hi hq H locs ls hP hD hS hl
      refine lv_iload hx hb de_B_read_3 (lv_at hl 4 rfl) ?_
      refine lv_aload_n hx hb de_B_read_5 rfl (lv_at hl 0 rfl) ?_
      refine va_get (D := (dC, dI)) (ci := 3) (v := .int (nI (t.2.2.2 2))) (C := "StabilitySums$Table") (T := TB_B) (N := 4) hx hb hts ui_B hown hK hP 3 rfl rfl 3 (by decide) (hts _ uw_134) (fun _ h9 => h9) rfl de_B_read_6 ?_
      refine lv_icmp_ge (tgt := 30) hx hb de_B_read_9 (by decide) (fun c_24 => ?_) (fun c_24 => ?_)
      · skip
        have c_24 : (t.2.2.2 2) ≤ i := (nI_leI (a := (t.2.2.2 2)) (b := i) (by omega) (by omega)).mp c_24
        exfalso; omega
      · skip
        have c_24 : ¬ ((t.2.2.2 2) ≤ i) := fun z => c_24 ((nI_leI (a := (t.2.2.2 2)) (b := i) (by omega) (by omega)).mpr z)
        refine lv_aload_n hx hb de_B_read_12 rfl (lv_at hl 0 rfl) ?_
        refine va_get (D := (dC, dI)) (ci := 3) (v := .ref (ad 21)) (C := "StabilitySums$Table") (T := TB_B) (N := 4) hx hb hts ui_B hown hK hP 3 rfl rfl 0 (by decide) (hts _ uw_129) (fun _ h9 => h9) rfl de_B_read_13 ?_
        refine lv_iload hx hb de_B_read_16 (lv_at hl 4 rfl) ?_
        refine rw_lald (f := t.1 12) (j := i) hx hb hK hP 21 0 rfl rfl (by omega) (by decide) de_B_read_18 ?_
        refine lv_lload_n hx hb de_B_read_19 rfl (lv_at hl 2 rfl) ?_
        refine rw_ge (tgt := 30) hx hb de_B_read_20 de_B_read_21 (by decide) (fun c_25 => ?_) (fun c_25 => ?_)
        · skip
          have hi9 : i = x_abv t a1 (t.2.2.2 2) 0 := by rw [← hq]; first | rfl | (rw [x_abv, if_pos c_25])
          refine lv_aload_n hx hb de_B_read_30 rfl (lv_at hl 0 rfl) ?_
          refine va_get (D := (dC, dI)) (ci := 3) (v := .int (nI (t.2.2.2 2))) (C := "StabilitySums$Table") (T := TB_B) (N := 4) hx hb hts ui_B hown hK hP 3 rfl rfl 3 (by decide) (hts _ uw_134) (fun _ h9 => h9) rfl de_B_read_31 ?_
          refine lv_if_ne (tgt := 47) hx hb de_B_read_34 (by decide) (fun c_26 => ?_) (fun c_26 => ?_)
          · skip
            have c_26 : ¬ (t.2.2.2 2) = 0 := fun z => c_26 ((nz0 (by omega)).mpr z)
            refine lv_iload hx hb de_B_read_47 (lv_at hl 4 rfl) ?_
            refine lv_if_ne (tgt := 64) hx hb de_B_read_49 (by decide) (fun c_27 => ?_) (fun c_27 => ?_)
            · skip
              have c_27 : ¬ i = 0 := fun z => c_27 ((nz0 (by omega)).mpr z)
              refine lv_iload hx hb de_B_read_64 (lv_at hl 4 rfl) ?_
              refine lv_aload_n hx hb de_B_read_66 rfl (lv_at hl 0 rfl) ?_
              refine va_get (D := (dC, dI)) (ci := 3) (v := .int (nI (t.2.2.2 2))) (C := "StabilitySums$Table") (T := TB_B) (N := 4) hx hb hts ui_B hown hK hP 3 rfl rfl 3 (by decide) (hts _ uw_134) (fun _ h9 => h9) rfl de_B_read_67 ?_
              refine lv_icmp_ne (tgt := 90) hx hb de_B_read_70 (by decide) (fun c_28 => ?_) (fun c_28 => ?_)
              · skip
                have c_28 : ¬ (i = (t.2.2.2 2)) := fun z => c_28 ((nI_eq (a := i) (b := (t.2.2.2 2)) (by omega) (by omega)).mpr z)
                refine lv_aload_n hx hb de_B_read_90 rfl (lv_at hl 0 rfl) ?_
                refine va_get (D := (dC, dI)) (ci := 3) (v := .ref (ad 21)) (C := "StabilitySums$Table") (T := TB_B) (N := 4) hx hb hts ui_B hown hK hP 3 rfl rfl 0 (by decide) (hts _ uw_129) (fun _ h9 => h9) rfl de_B_read_91 ?_
                refine lv_iload hx hb de_B_read_94 (lv_at hl 4 rfl) ?_
                refine rw_lald (f := t.1 12) (j := i) hx hb hK hP 21 0 rfl rfl (by omega) (by decide) de_B_read_96 ?_
                refine lv_aload_n hx hb de_B_read_97 rfl (lv_at hl 0 rfl) ?_
                refine va_get (D := (dC, dI)) (ci := 3) (v := .ref (ad 21)) (C := "StabilitySums$Table") (T := TB_B) (N := 4) hx hb hts ui_B hown hK hP 3 rfl rfl 0 (by decide) (hts _ uw_129) (fun _ h9 => h9) rfl de_B_read_98 ?_
                refine lv_iload hx hb de_B_read_101 (lv_at hl 4 rfl) ?_
                refine lv_iconst (v := 1) hx hb de_B_read_103 (by decide) ?_
                refine lv_isub hx hb de_B_read_104 ?_
                refine lv_topi (fun v_29 ev_29 => ?_)
                have ev_29 : v_29 = (nI (i - 1)) := ev_29.trans (pk_sub (a := i) (b := 1) (by omega))
                subst ev_29
                refine rw_lald (f := t.1 12) (j := (i - 1)) hx hb hK hP 21 0 rfl rfl (by omega) (by decide) de_B_read_105 ?_
                refine lv_lsub hx hb de_B_read_106 ?_
                refine lv_topl (fun v_30 ev_30 => ?_)
                have ev_30 : v_30 = (t.1 12 i) - (t.1 12 (i - 1)) := ev_30
                refine lv_lstore (lv' := [(6, .long v_30), (0, .ref (ad 3)), (1, .ref (ad 23)), (2, .long a1), (4, .ref (ad 8)), (5, .int (nI i))]) hx hb de_B_read_107 hl (by decide) rfl (fun ls hl => ?_)
                refine lv_lload_n hx hb de_B_read_109 rfl (lv_at hl 3 rfl) ?_
                refine lv_aload_n hx hb de_B_read_110 rfl (lv_at hl 1 rfl) ?_
                refine va_get (D := (dC, dI)) (ci := 3) (v := .ref (ad 21)) (C := "StabilitySums$Table") (T := TB_B) (N := 4) hx hb hts ui_B hown hK hP 3 rfl rfl 0 (by decide) (hts _ uw_129) (fun _ h9 => h9) rfl de_B_read_111 ?_
                refine lv_iload hx hb de_B_read_114 (lv_at hl 5 rfl) ?_
                refine lv_iconst (v := 1) hx hb de_B_read_116 (by decide) ?_
                refine lv_isub hx hb de_B_read_117 ?_
                refine lv_topi (fun v_31 ev_31 => ?_)
                have ev_31 : v_31 = (nI (i - 1)) := ev_31.trans (pk_sub (a := i) (b := 1) (by omega))
                subst ev_31
                refine rw_lald (f := t.1 12) (j := (i - 1)) hx hb hK hP 21 0 rfl rfl (by omega) (by decide) de_B_read_118 ?_
                refine lv_lsub hx hb de_B_read_119 ?_
                refine lv_topl (fun v_32 ev_32 => ?_)
                have ev_32 : v_32 = a1 - (t.1 12 (i - 1)) := ev_32
                refine lv_lstore (lv' := [(8, .long v_32), (6, .long v_30), (0, .ref (ad 3)), (1, .ref (ad 23)), (2, .long a1), (4, .ref (ad 8)), (5, .int (nI i))]) hx hb de_B_read_120 hl (by decide) rfl (fun ls hl => ?_)
                refine lv_aload_n hx hb de_B_read_122 rfl (lv_at hl 3 rfl) ?_
                refine lv_iload hx hb de_B_read_123 (lv_at hl 6 rfl) ?_
                refine rw_lald (f := t.1 14) (j := i) hx hb hK hP 23 0 rfl rfl (by omega) (by decide) de_B_read_125 ?_
                refine lv_aload_n hx hb de_B_read_126 rfl (lv_at hl 3 rfl) ?_
                refine lv_iload hx hb de_B_read_127 (lv_at hl 6 rfl) ?_
                refine lv_iconst (v := 1) hx hb de_B_read_129 (by decide) ?_
                refine lv_isub hx hb de_B_read_130 ?_
                refine lv_topi (fun v_33 ev_33 => ?_)
                have ev_33 : v_33 = (nI (i - 1)) := ev_33.trans (pk_sub (a := i) (b := 1) (by omega))
                subst ev_33
                refine rw_lald (f := t.1 14) (j := (i - 1)) hx hb hK hP 23 0 rfl rfl (by omega) (by decide) de_B_read_131 ?_
                refine lv_lsub hx hb de_B_read_132 ?_
                refine lv_topl (fun v_34 ev_34 => ?_)
                have ev_34 : v_34 = (t.1 14 i) - (t.1 14 (i - 1)) := ev_34
                refine lv_lstore (lv' := [(10, .long v_34), (8, .long v_32), (6, .long v_30), (0, .ref (ad 3)), (1, .ref (ad 23)), (2, .long a1), (4, .ref (ad 8)), (5, .int (nI i))]) hx hb de_B_read_133 hl (by decide) rfl (fun ls hl => ?_)
                refine lv_aload hx hb de_B_read_135 (lv_at hl 6 rfl) ?_
                refine lv_aload_n hx hb de_B_read_137 rfl (lv_at hl 4 rfl) ?_
                refine lv_iload hx hb de_B_read_138 (lv_at hl 7 rfl) ?_
                refine lv_iconst (v := 1) hx hb de_B_read_140 (by decide) ?_
                refine lv_isub hx hb de_B_read_141 ?_
                refine lv_topi (fun v_35 ev_35 => ?_)
                have ev_35 : v_35 = (nI (i - 1)) := ev_35.trans (pk_sub (a := i) (b := 1) (by omega))
                subst ev_35
                refine rw_lald (f := t.1 14) (j := (i - 1)) hx hb hK hP 23 0 rfl rfl (by omega) (by decide) de_B_read_142 ?_
                refine lv_lload hx hb de_B_read_143 (lv_at hl 2 rfl) ?_
                refine lv_lmul hx hb de_B_read_145 ?_
                refine lv_topl (fun v_36 ev_36 => ?_)
                have ev_36 : v_36 = (t.1 14 (i - 1)) * v_30 := ev_36
                refine lv_lload hx hb de_B_read_146 (lv_at hl 0 rfl) ?_
                refine lv_lload hx hb de_B_read_148 (lv_at hl 1 rfl) ?_
                refine lv_lmul hx hb de_B_read_150 ?_
                refine lv_topl (fun v_37 ev_37 => ?_)
                have ev_37 : v_37 = v_34 * v_32 := ev_37
                refine lv_ladd hx hb de_B_read_151 ?_
                refine lv_topl (fun v_38 ev_38 => ?_)
                have ev_38 : v_38 = v_36 + v_37 := ev_38
                refine lv_lload hx hb de_B_read_152 (lv_at hl 2 rfl) ?_
                refine cl_Vv (As := [.long v_38, .long v_30]) (rest := []) ⟨hx, hb, hml, hown, hts⟩ (mt_F_put l dC dI ad T t v_38 v_30) (cwV 2 hts (uw_V uw_384 uw_377 uw_378 uw_35 uw_379) rfl rfl rfl (by decide +kernel) ⟨Nat.le_of_ble_eq_true rfl, Nat.le_of_ble_eq_true rfl⟩) (va_recv hK hP (ci := 8) (q0 := 8) rfl rfl) rfl hl.1 rfl (by decide) de_B_read_154 ⟨Nat.zero_le _, Nat.zero_le _⟩ hK hN hP hD hS hA (fun _ H locs hw_39 hP hD hS => ?_)
                obtain ⟨t_40, et_40⟩ : ∃ z, z = x_put v_38 v_30 t := ⟨_, rfl⟩
                have hP : va_P (dC, dI) CLS (wS ad T t_40) H := by rw [et_40]; exact hP
                have hD : va_D A (wS ad T t_40) := by rw [et_40]; exact hD
                obtain ⟨_, _, _, _, _, _⟩ : N6p t_40 t := by rw [et_40]; exact nsix (x_put_N _ _ _)
                have hfin : t_40 = x_read 14 a1 t := by
                  subst_vars; unfold x_read; simp only [c_24, c_25, c_26, c_27, c_28, ↓reduceIte]
                rw [hfin] at hP hD
                subst hQ
                exact W.vret hx hb hr (fun t9 ht hW => ⟨⟨(), rfl, trivial, by rw [ht]; exact hP, va_K.moved hW.alike hK, hD⟩, hS.F ht⟩) hS.2.2 de_B_read_157
              · skip
                have c_28 : i = (t.2.2.2 2) := (nI_eq (a := i) (b := (t.2.2.2 2)) (by omega) (by omega)).mp c_28
                refine lv_aload hx hb de_B_read_73 (lv_at hl 3 rfl) ?_
                refine lv_aload_n hx hb de_B_read_75 rfl (lv_at hl 1 rfl) ?_
                refine lv_aload_n hx hb de_B_read_76 rfl (lv_at hl 0 rfl) ?_
                refine va_get (D := (dC, dI)) (ci := 3) (v := .int (nI (t.2.2.2 2))) (C := "StabilitySums$Table") (T := TB_B) (N := 4) hx hb hts ui_B hown hK hP 3 rfl rfl 3 (by decide) (hts _ uw_134) (fun _ h9 => h9) rfl de_B_read_77 ?_
                refine lv_iconst (v := 1) hx hb de_B_read_80 (by decide) ?_
                refine lv_isub hx hb de_B_read_81 ?_
                refine lv_topi (fun v_41 ev_41 => ?_)
                have ev_41 : v_41 = (nI ((t.2.2.2 2) - 1)) := ev_41.trans (pk_sub (a := (t.2.2.2 2)) (b := 1) (by omega))
                subst ev_41
                refine rw_lald (f := t.1 14) (j := ((t.2.2.2 2) - 1)) hx hb hK hP 23 0 rfl rfl (by omega) (by decide) de_B_read_82 ?_
                refine lv_lconst (v := 1) hx hb de_B_read_83 (by decide) ?_
                refine cl_Vv (As := [.long (t.1 14 ((t.2.2.2 2) - 1)), .long 1]) (rest := []) ⟨hx, hb, hml, hown, hts⟩ (mt_F_put l dC dI ad T t (t.1 14 ((t.2.2.2 2) - 1)) 1) (cwV 2 hts (uw_V uw_384 uw_377 uw_378 uw_35 uw_379) rfl rfl rfl (by decide +kernel) ⟨Nat.le_of_ble_eq_true rfl, Nat.le_of_ble_eq_true rfl⟩) (va_recv hK hP (ci := 8) (q0 := 8) rfl rfl) rfl hl.1 rfl (by decide) de_B_read_84 ⟨Nat.zero_le _, Nat.zero_le _⟩ hK hN hP hD hS hA (fun _ H locs hw_42 hP hD hS => ?_)
                obtain ⟨t_43, et_43⟩ : ∃ z, z = x_put (t.1 14 ((t.2.2.2 2) - 1)) 1 t := ⟨_, rfl⟩
                have hP : va_P (dC, dI) CLS (wS ad T t_43) H := by rw [et_43]; exact hP
                have hD : va_D A (wS ad T t_43) := by rw [et_43]; exact hD
                obtain ⟨_, _, _, _, _, _⟩ : N6p t_43 t := by rw [et_43]; exact nsix (x_put_N _ _ _)
                refine lv_goto (tgt := 157) hx hb de_B_read_87 (by decide) ?_
                have hfin : t_43 = x_read 14 a1 t := by
                  subst_vars; unfold x_read; simp only [c_24, c_25, c_26, c_27, c_28, ↓reduceIte]
                rw [hfin] at hP hD
                subst hQ
                exact W.vret hx hb hr (fun t9 ht hW => ⟨⟨(), rfl, trivial, by rw [ht]; exact hP, va_K.moved hW.alike hK, hD⟩, hS.F ht⟩) hS.2.2 de_B_read_157
            · skip
              have c_27 : i = 0 := (nz0 (by omega)).mp c_27
              refine lv_aload hx hb de_B_read_52 (lv_at hl 3 rfl) ?_
              refine lv_aload_n hx hb de_B_read_54 rfl (lv_at hl 1 rfl) ?_
              refine lv_iconst (v := 0) hx hb de_B_read_55 (by decide) ?_
              refine rw_lald (f := t.1 14) (j := 0) hx hb hK hP 23 0 rfl rfl (by decide) (by decide) de_B_read_56 ?_
              refine lv_lconst (v := 1) hx hb de_B_read_57 (by decide) ?_
              refine cl_Vv (As := [.long (t.1 14 0), .long 1]) (rest := []) ⟨hx, hb, hml, hown, hts⟩ (mt_F_put l dC dI ad T t (t.1 14 0) 1) (cwV 2 hts (uw_V uw_384 uw_377 uw_378 uw_35 uw_379) rfl rfl rfl (by decide +kernel) ⟨Nat.le_of_ble_eq_true rfl, Nat.le_of_ble_eq_true rfl⟩) (va_recv hK hP (ci := 8) (q0 := 8) rfl rfl) rfl hl.1 rfl (by decide) de_B_read_58 ⟨Nat.zero_le _, Nat.zero_le _⟩ hK hN hP hD hS hA (fun _ H locs hw_44 hP hD hS => ?_)
              obtain ⟨t_45, et_45⟩ : ∃ z, z = x_put (t.1 14 0) 1 t := ⟨_, rfl⟩
              have hP : va_P (dC, dI) CLS (wS ad T t_45) H := by rw [et_45]; exact hP
              have hD : va_D A (wS ad T t_45) := by rw [et_45]; exact hD
              obtain ⟨_, _, _, _, _, _⟩ : N6p t_45 t := by rw [et_45]; exact nsix (x_put_N _ _ _)
              refine lv_goto (tgt := 157) hx hb de_B_read_61 (by decide) ?_
              have hfin : t_45 = x_read 14 a1 t := by
                subst_vars; unfold x_read; simp only [c_24, c_25, c_26, c_27, ↓reduceIte]
              rw [hfin] at hP hD
              subst hQ
              exact W.vret hx hb hr (fun t9 ht hW => ⟨⟨(), rfl, trivial, by rw [ht]; exact hP, va_K.moved hW.alike hK, hD⟩, hS.F ht⟩) hS.2.2 de_B_read_157
          · skip
            have c_26 : (t.2.2.2 2) = 0 := (nz0 (by omega)).mp c_26
            refine lv_aload hx hb de_B_read_37 (lv_at hl 3 rfl) ?_
            refine lv_lconst (v := 0) hx hb de_B_read_39 (by decide) ?_
            refine lv_lconst (v := 1) hx hb de_B_read_40 (by decide) ?_
            refine cl_Vv (As := [.long 0, .long 1]) (rest := []) ⟨hx, hb, hml, hown, hts⟩ (mt_F_put l dC dI ad T t 0 1) (cwV 2 hts (uw_V uw_384 uw_377 uw_378 uw_35 uw_379) rfl rfl rfl (by decide +kernel) ⟨Nat.le_of_ble_eq_true rfl, Nat.le_of_ble_eq_true rfl⟩) (va_recv hK hP (ci := 8) (q0 := 8) rfl rfl) rfl hl.1 rfl (by decide) de_B_read_41 ⟨Nat.zero_le _, Nat.zero_le _⟩ hK hN hP hD hS hA (fun _ H locs hw_46 hP hD hS => ?_)
            obtain ⟨t_47, et_47⟩ : ∃ z, z = x_put 0 1 t := ⟨_, rfl⟩
            have hP : va_P (dC, dI) CLS (wS ad T t_47) H := by rw [et_47]; exact hP
            have hD : va_D A (wS ad T t_47) := by rw [et_47]; exact hD
            obtain ⟨_, _, _, _, _, _⟩ : N6p t_47 t := by rw [et_47]; exact nsix (x_put_N _ _ _)
            refine lv_goto (tgt := 157) hx hb de_B_read_44 (by decide) ?_
            have hfin : t_47 = x_read 14 a1 t := by
              subst_vars; unfold x_read; simp only [c_24, c_25, c_26, ↓reduceIte]
            rw [hfin] at hP hD
            subst hQ
            exact W.vret hx hb hr (fun t9 ht hW => ⟨⟨(), rfl, trivial, by rw [ht]; exact hP, va_K.moved hW.alike hK, hD⟩, hS.F ht⟩) hS.2.2 de_B_read_157
        · skip
          refine lv_iinc (v := (nI (i + 1))) (lv' := [(5, .int (nI (i + 1))), (0, .ref (ad 3)), (1, .ref (ad 23)), (2, .long a1), (4, .ref (ad 8))]) hx hb de_B_read_24 hl (k := 4) rfl (nI_1 i) (by decide) rfl (fun ls hl => ?_)
          refine lv_goto (tgt := 3) hx hb de_B_read_27 (by decide) ?_
          exact ih (i + 1) (by omega) (by rw [← hq, x_abv, if_neg c_25]) H locs ls hP hD hS (lv_sub hl [1, 2, 3, 4, 0] rfl)
  exact loop_3 (t.2.2.2 2) 0 (by omega) rfl _ _ ls hP hD hS (lv_sub hl [1, 2, 3, 4, 0] rfl)
set_option maxHeartbeats 4000000 in
set_option maxRecDepth 100000 in
theorem mt_L_allows (l : Launch) (dC : Nat → ClassId) (dI : Nat → Nat → Nat) (ad : Nat → Nat) (T : Nat → ClassId) (t : St) (i : Nat) (a1 : Int64) (a2 : Int64) (hi0 : i ≤ 10) (sz : Nat) : Met l yn_L_allows (.code yn_L_allows cd_L_allows 6 (some .boolean) :: UW) ({ frames := 0, cells := 0, slots := 0, locals := 0 } : Room) (va_Pc [.ref (ad 4), .int (nI i), .long a1, .long a2] (Pw (dC, dI) CLS (TY T) (wS ad T t) sz)) (va_Qi (fun (r : Int32) (_ : Unit) => bz r (x_alw t i a1 a2)) (Bw (dC, dI) CLS (TY T) (fun _ : Unit => (wS ad T t)) (va_A (wS ad T t) sz)) (va_A (wS ad T t) sz)) 0 0 (va_A (wS ad T t) sz) := by
  refine Met.ofW (cc := cd_L_allows) (maxL := 6) (ret := (some .boolean)) (by decide) rfl ?_
  intro p e s m args below meth c s₁ B hml hv
  obtain ⟨rfl, hsz, hP, hK, hD0, hN⟩ := hv
  have hx := B.exec
  have hb := B.bytes
  have hr := B.returns
  have hts : ∀ w ∈ UW, w.before _ s = true := fun w h => atoms_spec (ws := .code yn_L_allows cd_L_allows 6 (some .boolean) :: UW) B.pre w (List.mem_cons_of_mem _ h)
  have hown : s.vm.findClass "StabilitySums$Limits" = some m.cls := findClass_of_methodNamed B.named
  have hlocks := B.notSynchronized
  subst hsz
  have hD := hD0.self (sz := s.heap.size)
  generalize hAe : va_A (wS ad T t) s.heap.size = A at hD ⊢
  have hA : ∀ q : Nat, s.heap.size ≤ q → A q := fun q h => by rw [← hAe]; exact Or.inr h
  have hS : va_S A s.heap s.heap [] := va_S.rf
  have hl := lv_entry ([.ref (ad 4), .int (nI i), .long a1, .long a2]) (n := 6) (Nat.le_of_ble_eq_true rfl)
  rw [lg_entry_eq]
  generalize (lg_sl ([.ref (ad 4), .int (nI i), .long a1, .long a2]) ++ List.replicate (6 - (lg_sl ([.ref (ad 4), .int (nI i), .long a1, .long a2])).length) Slot.unset).toArray = ls at hl ⊢
  have hl : lv_has ls 6 [(0, .ref (ad 4)), (1, .int (nI i)), (2, .long a1), (4, .long a2)] := hl
  generalize hQ : MQ below _ _ s 0 0 A = Q
  refine lv_lload_n hx hb de_L_allows_0 rfl (lv_at hl 2 rfl) ?_
  refine lv_aload_n hx hb de_L_allows_1 rfl (lv_at hl 0 rfl) ?_
  refine va_get (D := (dC, dI)) (ci := 4) (v := .ref (ad 25)) (C := "StabilitySums$Limits") (T := TB_L) (N := 4) hx hb hts ui_L hown hK hP 4 rfl rfl 1 (by decide) (hts _ uw_153) (fun _ h9 => h9) rfl de_L_allows_2 ?_
  refine lv_iload_n hx hb de_L_allows_5 rfl (lv_at hl 1 rfl) ?_
  refine rw_lald (f := t.1 15) (j := i) hx hb hK hP 25 0 rfl rfl (by omega) (by decide) de_L_allows_6 ?_
  refine rw_lt (tgt := 27) hx hb de_L_allows_7 de_L_allows_8 (by decide) (fun c_1 => ?_) (fun c_1 => ?_)
  · skip
    refine lv_iconst (v := 0) hx hb de_L_allows_27 (by decide) ?_
    subst hQ
    have hpost : bz 0 (x_alw t i a1 a2) := by
      first | exact Or.inl ⟨rfl, by simp only [x_alw, Int64.lt_iff_toInt_lt, Int64.le_iff_toInt_le] at *; omega⟩ | exact Or.inr ⟨rfl, by simp only [x_alw, Int64.lt_iff_toInt_lt, Int64.le_iff_toInt_le] at *; omega⟩
    exact W.zret (v := 0) hx hb hr (bz_nar hpost) (fun t9 ht hW => ⟨⟨0, (), rfl, hpost, by rw [ht]; exact hP, va_K.moved hW.alike hK, hD⟩, hS.F ht⟩) hS.2.2 de_L_allows_28
  · skip
    refine lv_lload hx hb de_L_allows_11 (lv_at hl 3 rfl) ?_
    refine lv_aload_n hx hb de_L_allows_13 rfl (lv_at hl 0 rfl) ?_
    refine va_get (D := (dC, dI)) (ci := 4) (v := .ref (ad 26)) (C := "StabilitySums$Limits") (T := TB_L) (N := 4) hx hb hts ui_L hown hK hP 4 rfl rfl 2 (by decide) (hts _ uw_154) (fun _ h9 => h9) rfl de_L_allows_14 ?_
    refine lv_iload_n hx hb de_L_allows_17 rfl (lv_at hl 1 rfl) ?_
    refine rw_lald (f := t.1 16) (j := i) hx hb hK hP 26 0 rfl rfl (by omega) (by decide) de_L_allows_18 ?_
    refine rw_gt (tgt := 27) hx hb de_L_allows_19 de_L_allows_20 (by decide) (fun c_2 => ?_) (fun c_2 => ?_)
    · skip
      refine lv_iconst (v := 0) hx hb de_L_allows_27 (by decide) ?_
      subst hQ
      have hpost : bz 0 (x_alw t i a1 a2) := by
        first | exact Or.inl ⟨rfl, by simp only [x_alw, Int64.lt_iff_toInt_lt, Int64.le_iff_toInt_le] at *; omega⟩ | exact Or.inr ⟨rfl, by simp only [x_alw, Int64.lt_iff_toInt_lt, Int64.le_iff_toInt_le] at *; omega⟩
      exact W.zret (v := 0) hx hb hr (bz_nar hpost) (fun t9 ht hW => ⟨⟨0, (), rfl, hpost, by rw [ht]; exact hP, va_K.moved hW.alike hK, hD⟩, hS.F ht⟩) hS.2.2 de_L_allows_28
    · skip
      refine lv_iconst (v := 1) hx hb de_L_allows_23 (by decide) ?_
      refine lv_goto (tgt := 28) hx hb de_L_allows_24 (by decide) ?_
      subst hQ
      have hpost : bz 1 (x_alw t i a1 a2) := by
        first | exact Or.inl ⟨rfl, by simp only [x_alw, Int64.lt_iff_toInt_lt, Int64.le_iff_toInt_le] at *; omega⟩ | exact Or.inr ⟨rfl, by simp only [x_alw, Int64.lt_iff_toInt_lt, Int64.le_iff_toInt_le] at *; omega⟩
      exact W.zret (v := 1) hx hb hr (bz_nar hpost) (fun t9 ht hW => ⟨⟨1, (), rfl, hpost, by rw [ht]; exact hP, va_K.moved hW.alike hK, hD⟩, hS.F ht⟩) hS.2.2 de_L_allows_28
end
section
def x_set : Nat → Nat → St → St
  | 0, _, t => t
  | n + 1, r, t => x_set n (r / 5) (x_fillT n (t.1 4 n / 4 * (nI (r % 5)).toInt64) t)
theorem x_set_N : ∀ (n r : Nat) (t : St), (x_set n r t).2.2.2 = t.2.2.2
  | 0, _, _ => rfl
  | n + 1, r, t => by rw [x_set, x_set_N n, x_fillT_N]
def x_tw (c : Nat) (t : St) : St := x_set (t.2.2.2 1) c t
theorem x_tw_N (c : Nat) (t : St) : (x_tw c t).2.2.2 = t.2.2.2 := x_set_N _ _ _
noncomputable abbrev x_lbn (t : St) : Nat := (x_lb (t.2.2.2 3) 1 t).1
noncomputable abbrev x_lbt (t : St) : St := (x_lb (t.2.2.2 3) 1 t).2
theorem x_lb_le : ∀ (n i : Nat) (t : St), (x_lb n i t).1 ≤ i + n
  | 0, i, t => Nat.zero_le _
  | n + 1, i, t => by
    rw [x_lb]; split
    · omega
    · have := x_lb_le n (i + 1) (x_bt i t); omega
noncomputable def x_fp : Nat → Nat → Int64 → St → Int64 × St
  | 0, _, b, t => (b, t)
  | n + 1, c, b, t =>
    if b = -1 ∨ x_wk (x_tw c t) ((x_tw c t).2.2.2 1) 0 0 < b then
      if x_lbn (x_tw c t) = 0 then x_fp n (c + 1) (x_wk (x_tw c t) ((x_tw c t).2.2.2 1) 0 0) (x_kt ((x_lbt (x_tw c t)).2.2.2 1) 0 (x_lbt (x_tw c t)))
      else x_fp n (c + 1) b (x_lbt (x_tw c t))
    else x_fp n (c + 1) b (x_tw c t)
theorem x_fp_N : ∀ (n c : Nat) (b : Int64) (t : St), (x_fp n c b t).2.2.2.2 = t.2.2.2
  | 0, _, _, _ => rfl
  | n + 1, c, b, t => by
    rw [x_fp]; split
    · split
      · rw [x_fp_N n, x_kt_N, x_lb_N, x_tw_N]
      · rw [x_fp_N n, x_lb_N, x_tw_N]
    · rw [x_fp_N n, x_tw_N]
noncomputable def x_pump (t : St) : Int64 × St := x_fp (5 ^ t.2.2.2 1) 0 (-1) (x_gath t)
theorem x_pump_6 (t : St) : (x_pump t).2.2.2.2 0 = t.2.2.2 0 ∧ (x_pump t).2.2.2.2 1 = t.2.2.2 1 ∧ (x_pump t).2.2.2.2 2 = t.2.2.2 2 ∧ (x_pump t).2.2.2.2 3 = t.2.2.2 3 ∧ (x_pump t).2.2.2.2 4 = t.2.2.2 4 ∧ (x_pump t).2.2.2.2 5 = t.2.2.2 3 := by rw [x_pump, x_fp_N]; exact x_gath_6 t
def EO (t : St) : Prop := ∀ i, i < t.2.2.2 4 → t.2.1 2 i = nI (t.2.1 2 i).toNatClampNeg ∧ (t.2.1 1 i = 0 → (t.2.1 2 i).toNatClampNeg < 40) ∧ (¬ t.2.1 1 i = 0 → (t.2.1 2 i).toNatClampNeg < 4)
end
section
set_option maxHeartbeats 4000000 in
set_option maxRecDepth 100000 in
theorem mt_S_tryMore (l : Launch) (dC : Nat → ClassId) (dI : Nat → Nat → Nat) (ad : Nat → Nat) (T : Nat → ClassId) (t : St) (i : Nat) (a1 : Int64) (hI : Iv t) (hi0 : i < 40) (sz : Nat) : Met l yn_S_tryMore (.code yn_S_tryMore cd_S_tryMore 4 none :: UW) ({ frames := 1, cells := 0, slots := 0, locals := 28 } : Room) (va_Pc [.ref (ad 0), .int (nI i), .long a1] (Pw (dC, dI) CLS (TY T) (wS ad T t) sz)) (va_Qv (fun _ : Unit => True) (Bw (dC, dI) CLS (TY T) (fun _ : Unit => (wS ad T (x_more i a1 t))) (va_A (wS ad T t) sz)) (va_A (wS ad T t) sz)) 0 0 (va_A (wS ad T t) sz) := by
  refine Met.ofW (cc := cd_S_tryMore) (maxL := 4) (ret := none) (by decide) rfl ?_
  intro p e s m args below meth c s₁ B hml hv
  obtain ⟨rfl, hsz, hP, hK, hD0, hN⟩ := hv
  have hx := B.exec
  have hb := B.bytes
  have hr := B.returns
  have hts : ∀ w ∈ UW, w.before _ s = true := fun w h => atoms_spec (ws := .code yn_S_tryMore cd_S_tryMore 4 none :: UW) B.pre w (List.mem_cons_of_mem _ h)
  have hown : s.vm.findClass "StabilitySums" = some m.cls := findClass_of_methodNamed B.named
  have hlocks := B.notSynchronized
  subst hsz
  have hD := hD0.self (sz := s.heap.size)
  generalize hAe : va_A (wS ad T t) s.heap.size = A at hD ⊢
  have hA : ∀ q : Nat, s.heap.size ≤ q → A q := fun q h => by rw [← hAe]; exact Or.inr h
  have hS : va_S A s.heap s.heap [] := va_S.rf
  have hl := lv_entry ([.ref (ad 0), .int (nI i), .long a1]) (n := 4) (Nat.le_of_ble_eq_true rfl)
  rw [lg_entry_eq]
  generalize (lg_sl ([.ref (ad 0), .int (nI i), .long a1]) ++ List.replicate (4 - (lg_sl ([.ref (ad 0), .int (nI i), .long a1])).length) Slot.unset).toArray = ls at hl ⊢
  have hl : lv_has ls 4 [(0, .ref (ad 0)), (1, .int (nI i)), (2, .long a1)] := hl
  generalize hQ : MQ below _ _ s 0 0 A = Q
  obtain ⟨hI0, hI1, hI2, hI3, hI4, hI5⟩ := hI
  refine lv_aload_n hx hb de_S_tryMore_0 rfl (lv_at hl 0 rfl) ?_
  refine va_get (D := (dC, dI)) (ci := 0) (v := .ref (ad 6)) (C := "StabilitySums") (T := TB_S) (N := 10) hx hb hts ui_S hown hK hP 0 rfl rfl 5 (by decide) (hts _ uw_261) (fun _ h9 => h9) rfl de_S_tryMore_1 ?_
  refine lv_lload_n hx hb de_S_tryMore_4 rfl (lv_at hl 2 rfl) ?_
  refine lv_aload_n hx hb de_S_tryMore_5 rfl (lv_at hl 0 rfl) ?_
  refine va_get (D := (dC, dI)) (ci := 0) (v := .ref (ad 1)) (C := "StabilitySums") (T := TB_S) (N := 10) hx hb hts ui_S hown hK hP 0 rfl rfl 0 (by decide) (hts _ uw_256) (fun _ h9 => h9) rfl de_S_tryMore_6 ?_
  refine va_get (D := (dC, dI)) (ci := 1) (v := .ref (ad 10)) (C := "StabilitySums$Weights") (T := TB_W) (N := 5) hx hb hts ui_W hown hK hP 1 rfl rfl 1 (by decide) (hts _ uw_62) (fun _ h9 => h9) rfl de_S_tryMore_9 ?_
  refine lv_iload_n hx hb de_S_tryMore_12 rfl (lv_at hl 1 rfl) ?_
  refine rw_lald (f := t.1 1) (j := i) hx hb hK hP 10 0 rfl rfl (by omega) (by decide) de_S_tryMore_13 ?_
  refine lv_aload_n hx hb de_S_tryMore_14 rfl (lv_at hl 0 rfl) ?_
  refine va_get (D := (dC, dI)) (ci := 0) (v := .ref (ad 1)) (C := "StabilitySums") (T := TB_S) (N := 10) hx hb hts ui_S hown hK hP 0 rfl rfl 0 (by decide) (hts _ uw_256) (fun _ h9 => h9) rfl de_S_tryMore_15 ?_
  refine va_get (D := (dC, dI)) (ci := 1) (v := .ref (ad 11)) (C := "StabilitySums$Weights") (T := TB_W) (N := 5) hx hb hts ui_W hown hK hP 1 rfl rfl 2 (by decide) (hts _ uw_64) (fun _ h9 => h9) rfl de_S_tryMore_18 ?_
  refine lv_iload_n hx hb de_S_tryMore_21 rfl (lv_at hl 1 rfl) ?_
  refine rw_lald (f := t.1 2) (j := i) hx hb hK hP 11 0 rfl rfl (by omega) (by decide) de_S_tryMore_22 ?_
  refine lv_aload_n hx hb de_S_tryMore_23 rfl (lv_at hl 0 rfl) ?_
  refine va_get (D := (dC, dI)) (ci := 0) (v := .ref (ad 1)) (C := "StabilitySums") (T := TB_S) (N := 10) hx hb hts ui_S hown hK hP 0 rfl rfl 0 (by decide) (hts _ uw_256) (fun _ h9 => h9) rfl de_S_tryMore_24 ?_
  refine va_get (D := (dC, dI)) (ci := 1) (v := .ref (ad 12)) (C := "StabilitySums$Weights") (T := TB_W) (N := 5) hx hb hts ui_W hown hK hP 1 rfl rfl 3 (by decide) (hts _ uw_66) (fun _ h9 => h9) rfl de_S_tryMore_27 ?_
  refine lv_iload_n hx hb de_S_tryMore_30 rfl (lv_at hl 1 rfl) ?_
  refine rw_lald (f := t.1 3) (j := i) hx hb hK hP 12 0 rfl rfl (by omega) (by decide) de_S_tryMore_31 ?_
  refine cl_Vv (As := [.long a1, .long (t.1 1 i), .long (t.1 2 i), .long (t.1 3 i)]) (rest := []) ⟨hx, hb, hml, hown, hts⟩ (mt_U_add l dC dI ad T t a1 (t.1 1 i) (t.1 2 i) (t.1 3 i)) (cwV 4 hts (uw_V uw_321 uw_322 uw_323 uw_33 uw_324) rfl rfl rfl (by decide +kernel) ⟨Nat.le_of_ble_eq_true rfl, Nat.le_of_ble_eq_true rfl⟩) (va_recv hK hP (ci := 6) (q0 := 6) rfl rfl) rfl hl.1 rfl (Nat.le_of_ble_eq_true rfl) de_S_tryMore_32 ⟨Nat.zero_le _, Nat.zero_le _⟩ hK hN hP hD hS hA (fun _ H locs hw_1 hP hD hS => ?_)
  obtain ⟨t_2, et_2⟩ : ∃ z, z = x_uadd a1 (t.1 1 i) (t.1 2 i) (t.1 3 i) t := ⟨_, rfl⟩
  have hP : va_P (dC, dI) CLS (wS ad T t_2) H := by rw [et_2]; exact hP
  have hD : va_D A (wS ad T t_2) := by rw [et_2]; exact hD
  obtain ⟨_, _, _, _, _, _⟩ : N6p t_2 t := by rw [et_2]; exact nsix (x_uadd_N _ _ _ _ _)
  refine lv_aload_n hx hb de_S_tryMore_35 rfl (lv_at hl 0 rfl) ?_
  refine va_get (D := (dC, dI)) (ci := 0) (v := .ref (ad 7)) (C := "StabilitySums") (T := TB_S) (N := 10) hx hb hts ui_S hown hK hP 0 rfl rfl 6 (by decide) (hts _ uw_262) (fun _ h9 => h9) rfl de_S_tryMore_36 ?_
  refine lv_lload_n hx hb de_S_tryMore_39 rfl (lv_at hl 2 rfl) ?_
  refine lv_aload_n hx hb de_S_tryMore_40 rfl (lv_at hl 0 rfl) ?_
  refine va_get (D := (dC, dI)) (ci := 0) (v := .ref (ad 1)) (C := "StabilitySums") (T := TB_S) (N := 10) hx hb hts ui_S hown hK hP 0 rfl rfl 0 (by decide) (hts _ uw_256) (fun _ h9 => h9) rfl de_S_tryMore_41 ?_
  refine va_get (D := (dC, dI)) (ci := 1) (v := .ref (ad 10)) (C := "StabilitySums$Weights") (T := TB_W) (N := 5) hx hb hts ui_W hown hK hP 1 rfl rfl 1 (by decide) (hts _ uw_62) (fun _ h9 => h9) rfl de_S_tryMore_44 ?_
  refine lv_iload_n hx hb de_S_tryMore_47 rfl (lv_at hl 1 rfl) ?_
  refine rw_lald (f := t_2.1 1) (j := i) hx hb hK hP 10 0 rfl rfl (by omega) (by decide) de_S_tryMore_48 ?_
  refine cl_Vv (As := [.long a1, .long (t_2.1 1 i)]) (rest := []) ⟨hx, hb, hml, hown, hts⟩ (mt_C_add l dC dI ad T t_2 a1 (t_2.1 1 i) (show t_2.2.2.2 5 ≤ 10 from by omega)) (cwV 2 hts (uw_V uw_325 uw_326 uw_327 uw_34 uw_328) rfl rfl rfl (by decide +kernel) ⟨Nat.le_of_ble_eq_true rfl, Nat.le_of_ble_eq_true rfl⟩) (va_recv hK hP (ci := 7) (q0 := 7) rfl rfl) rfl hl.1 rfl (Nat.le_of_ble_eq_true rfl) de_S_tryMore_49 ⟨Nat.zero_le _, Nat.zero_le _⟩ hK hN hP hD hS hA (fun _ H locs hw_3 hP hD hS => ?_)
  obtain ⟨t_4, et_4⟩ : ∃ z, z = x_cutsAdd a1 (t_2.1 1 i) t_2 := ⟨_, rfl⟩
  have hP : va_P (dC, dI) CLS (wS ad T t_4) H := by rw [et_4]; exact hP
  have hD : va_D A (wS ad T t_4) := by rw [et_4]; exact hD
  obtain ⟨_, _, _, _, _, _⟩ : N6p t_4 t_2 := by rw [et_4]; exact nsix (x_cutsAdd_N _ _ _)
  have hfin : t_4 = x_more i a1 t := by
    subst_vars; rfl
  rw [hfin] at hP hD
  subst hQ
  exact W.vret hx hb hr (fun t9 ht hW => ⟨⟨(), rfl, trivial, by rw [ht]; exact hP, va_K.moved hW.alike hK, hD⟩, hS.F ht⟩) hS.2.2 de_S_tryMore_52
set_option maxHeartbeats 4000000 in
set_option maxRecDepth 100000 in
theorem mt_S_tryFilling (l : Launch) (dC : Nat → ClassId) (dI : Nat → Nat → Nat) (ad : Nat → Nat) (T : Nat → ClassId) (t : St) (i : Nat) (a1 : Int64) (hI : Iv t) (hi0 : i < 4) (sz : Nat) : Met l yn_S_tryFilling (.code yn_S_tryFilling cd_S_tryFilling 6 none :: UW) ({ frames := 2, cells := 0, slots := 0, locals := 46 } : Room) (va_Pc [.ref (ad 0), .int (nI i), .long a1] (Pw (dC, dI) CLS (TY T) (wS ad T t) sz)) (va_Qv (fun _ : Unit => True) (Bw (dC, dI) CLS (TY T) (fun _ : Unit => (wS ad T (x_fillT i a1 t))) (va_A (wS ad T t) sz)) (va_A (wS ad T t) sz)) 0 0 (va_A (wS ad T t) sz) := by
  refine Met.ofW (cc := cd_S_tryFilling) (maxL := 6) (ret := none) (by decide) rfl ?_
  intro p e s m args below meth c s₁ B hml hv
  obtain ⟨rfl, hsz, hP, hK, hD0, hN⟩ := hv
  have hx := B.exec
  have hb := B.bytes
  have hr := B.returns
  have hts : ∀ w ∈ UW, w.before _ s = true := fun w h => atoms_spec (ws := .code yn_S_tryFilling cd_S_tryFilling 6 none :: UW) B.pre w (List.mem_cons_of_mem _ h)
  have hown : s.vm.findClass "StabilitySums" = some m.cls := findClass_of_methodNamed B.named
  have hlocks := B.notSynchronized
  subst hsz
  have hD := hD0.self (sz := s.heap.size)
  generalize hAe : va_A (wS ad T t) s.heap.size = A at hD ⊢
  have hA : ∀ q : Nat, s.heap.size ≤ q → A q := fun q h => by rw [← hAe]; exact Or.inr h
  have hS : va_S A s.heap s.heap [] := va_S.rf
  have hl := lv_entry ([.ref (ad 0), .int (nI i), .long a1]) (n := 6) (Nat.le_of_ble_eq_true rfl)
  rw [lg_entry_eq]
  generalize (lg_sl ([.ref (ad 0), .int (nI i), .long a1]) ++ List.replicate (6 - (lg_sl ([.ref (ad 0), .int (nI i), .long a1])).length) Slot.unset).toArray = ls at hl ⊢
  have hl : lv_has ls 6 [(0, .ref (ad 0)), (1, .int (nI i)), (2, .long a1)] := hl
  generalize hQ : MQ below _ _ s 0 0 A = Q
  obtain ⟨hI0, hI1, hI2, hI3, hI4, hI5⟩ := hI
  refine lv_lload_n hx hb de_S_tryFilling_0 rfl (lv_at hl 2 rfl) ?_
  refine lv_aload_n hx hb de_S_tryFilling_1 rfl (lv_at hl 0 rfl) ?_
  refine va_get (D := (dC, dI)) (ci := 0) (v := .ref (ad 2)) (C := "StabilitySums") (T := TB_S) (N := 10) hx hb hts ui_S hown hK hP 0 rfl rfl 1 (by decide) (hts _ uw_257) (fun _ h9 => h9) rfl de_S_tryFilling_2 ?_
  refine va_get (D := (dC, dI)) (ci := 2) (v := .ref (ad 19)) (C := "StabilitySums$Tanks") (T := TB_T) (N := 9) hx hb hts ui_T hown hK hP 2 rfl rfl 6 (by decide) (hts _ uw_99) (fun _ h9 => h9) rfl de_S_tryFilling_5 ?_
  refine lv_iload_n hx hb de_S_tryFilling_8 rfl (lv_at hl 1 rfl) ?_
  refine rw_lald (f := t.1 10) (j := i) hx hb hK hP 19 0 rfl rfl (by omega) (by decide) de_S_tryFilling_9 ?_
  refine lv_lsub hx hb de_S_tryFilling_10 ?_
  refine lv_topl (fun v_1 ev_1 => ?_)
  have ev_1 : v_1 = a1 - (t.1 10 i) := ev_1
  refine lv_lstore (lv' := [(4, .long v_1), (0, .ref (ad 0)), (1, .int (nI i)), (2, .long a1)]) hx hb de_S_tryFilling_11 hl (by decide) rfl (fun ls hl => ?_)
  refine lv_lload hx hb de_S_tryFilling_13 (lv_at hl 0 rfl) ?_
  refine lv_lconst (v := 0) hx hb de_S_tryFilling_15 (by decide) ?_
  refine rw_ne (tgt := 21) hx hb de_S_tryFilling_16 de_S_tryFilling_17 (by decide) (fun c_2 => ?_) (fun c_2 => ?_)
  · skip
    refine lv_aload_n hx hb de_S_tryFilling_21 rfl (lv_at hl 1 rfl) ?_
    refine va_get (D := (dC, dI)) (ci := 0) (v := .ref (ad 6)) (C := "StabilitySums") (T := TB_S) (N := 10) hx hb hts ui_S hown hK hP 0 rfl rfl 5 (by decide) (hts _ uw_261) (fun _ h9 => h9) rfl de_S_tryFilling_22 ?_
    refine lv_dup hx hb de_S_tryFilling_25 rfl ?_
    refine va_get (D := (dC, dI)) (ci := 6) (v := .long (t.2.2.1 6)) (C := "StabilitySums$Sums") (T := TB_U) (N := 5) hx hb hts ui_U hown hK hP 6 rfl rfl 4 (by decide) (hts _ uw_206) (fun _ h9 => h9) rfl de_S_tryFilling_26 ?_
    refine lv_aload_n hx hb de_S_tryFilling_29 rfl (lv_at hl 1 rfl) ?_
    refine va_get (D := (dC, dI)) (ci := 0) (v := .ref (ad 2)) (C := "StabilitySums") (T := TB_S) (N := 10) hx hb hts ui_S hown hK hP 0 rfl rfl 1 (by decide) (hts _ uw_257) (fun _ h9 => h9) rfl de_S_tryFilling_30 ?_
    refine lv_iload_n hx hb de_S_tryFilling_33 rfl (lv_at hl 2 rfl) ?_
    refine lv_aload_n hx hb de_S_tryFilling_34 rfl (lv_at hl 1 rfl) ?_
    refine va_get (D := (dC, dI)) (ci := 0) (v := .ref (ad 2)) (C := "StabilitySums") (T := TB_S) (N := 10) hx hb hts ui_S hown hK hP 0 rfl rfl 1 (by decide) (hts _ uw_257) (fun _ h9 => h9) rfl de_S_tryFilling_35 ?_
    refine va_get (D := (dC, dI)) (ci := 2) (v := .ref (ad 19)) (C := "StabilitySums$Tanks") (T := TB_T) (N := 9) hx hb hts ui_T hown hK hP 2 rfl rfl 6 (by decide) (hts _ uw_99) (fun _ h9 => h9) rfl de_S_tryFilling_38 ?_
    refine lv_iload_n hx hb de_S_tryFilling_41 rfl (lv_at hl 2 rfl) ?_
    refine rw_lald (f := t.1 10) (j := i) hx hb hK hP 19 0 rfl rfl (by omega) (by decide) de_S_tryFilling_42 ?_
    refine cl_Vl (As := [.int (nI i), .long (t.1 10 i)]) (rest := [.long (t.2.2.1 6), .ref (ad 6)]) ⟨hx, hb, hml, hown, hts⟩ (mt_T_surfaceOf l dC dI ad T t i (t.1 10 i) (show i < 4 from by omega)) (cwV 2 hts (uw_V uw_333 uw_334 uw_335 uw_29 uw_336) rfl rfl rfl (by decide +kernel) ⟨Nat.le_of_ble_eq_true rfl, Nat.le_of_ble_eq_true rfl⟩) (va_recv hK hP (ci := 2) (q0 := 2) rfl rfl) rfl hl.1 rfl (Nat.le_of_ble_eq_true rfl) de_S_tryFilling_43 ⟨Nat.zero_le _, Nat.zero_le _⟩ hK hN hP hD hS hA (fun r_3 _ H locs hw_3 hP hD hS => ?_)
    have hw_3 : r_3 = x_surf t i (t.1 10 i) := hw_3
    refine lv_lsub hx hb de_S_tryFilling_46 ?_
    refine lv_topl (fun v_4 ev_4 => ?_)
    have ev_4 : v_4 = (t.2.2.1 6) - r_3 := ev_4
    refine va_put (D := (dC, dI)) (ci := 6) (v := .long v_4) (ty := .long) (C := "StabilitySums$Sums") (T := TB_U) (N := 5) hx hb hts ui_U tt_U tk_U nm_U hown hK hP hD hS 6 rfl rfl 4 (by decide) (hts _ uw_206) (fun _ h9 => h9) rfl (by decide +kernel) rfl rfl (Nat.le_of_ble_eq_true rfl) de_S_tryFilling_47 (fun H locs hP hD hS => ?_)
    have hP : va_P (dC, dI) CLS (wS ad T (sF t 6 v_4)) H := hP
    have hD : va_D A (wS ad T (sF t 6 v_4)) := hD
    refine lv_aload_n hx hb de_S_tryFilling_50 rfl (lv_at hl 1 rfl) ?_
    refine va_get (D := (dC, dI)) (ci := 0) (v := .ref (ad 6)) (C := "StabilitySums") (T := TB_S) (N := 10) hx hb hts ui_S hown hK hP 0 rfl rfl 5 (by decide) (hts _ uw_261) (fun _ h9 => h9) rfl de_S_tryFilling_51 ?_
    refine lv_dup hx hb de_S_tryFilling_54 rfl ?_
    refine va_get (D := (dC, dI)) (ci := 6) (v := .long v_4) (C := "StabilitySums$Sums") (T := TB_U) (N := 5) hx hb hts ui_U hown hK hP 6 rfl rfl 4 (by decide) (hts _ uw_206) (fun _ h9 => h9) rfl de_S_tryFilling_55 ?_
    refine lv_aload_n hx hb de_S_tryFilling_58 rfl (lv_at hl 1 rfl) ?_
    refine va_get (D := (dC, dI)) (ci := 0) (v := .ref (ad 2)) (C := "StabilitySums") (T := TB_S) (N := 10) hx hb hts ui_S hown hK hP 0 rfl rfl 1 (by decide) (hts _ uw_257) (fun _ h9 => h9) rfl de_S_tryFilling_59 ?_
    refine lv_iload_n hx hb de_S_tryFilling_62 rfl (lv_at hl 2 rfl) ?_
    refine lv_lload_n hx hb de_S_tryFilling_63 rfl (lv_at hl 3 rfl) ?_
    refine cl_Vl (As := [.int (nI i), .long a1]) (rest := [.long v_4, .ref (ad 6)]) ⟨hx, hb, hml, hown, hts⟩ (mt_T_surfaceOf l dC dI ad T (sF t 6 v_4) i a1 (show i < 4 from by omega)) (cwV 2 hts (uw_V uw_333 uw_334 uw_335 uw_29 uw_336) rfl rfl rfl (by decide +kernel) ⟨Nat.le_of_ble_eq_true rfl, Nat.le_of_ble_eq_true rfl⟩) (va_recv hK hP (ci := 2) (q0 := 2) rfl rfl) rfl hl.1 rfl (Nat.le_of_ble_eq_true rfl) de_S_tryFilling_64 ⟨Nat.zero_le _, Nat.zero_le _⟩ hK hN hP hD hS hA (fun r_5 _ H locs hw_5 hP hD hS => ?_)
    have hw_5 : r_5 = x_surf (sF t 6 v_4) i a1 := hw_5
    refine lv_ladd hx hb de_S_tryFilling_67 ?_
    refine lv_topl (fun v_6 ev_6 => ?_)
    have ev_6 : v_6 = v_4 + r_5 := ev_6
    refine va_put (D := (dC, dI)) (ci := 6) (v := .long v_6) (ty := .long) (C := "StabilitySums$Sums") (T := TB_U) (N := 5) hx hb hts ui_U tt_U tk_U nm_U hown hK hP hD hS 6 rfl rfl 4 (by decide) (hts _ uw_206) (fun _ h9 => h9) rfl (by decide +kernel) rfl rfl (Nat.le_of_ble_eq_true rfl) de_S_tryFilling_68 (fun H locs hP hD hS => ?_)
    have hP : va_P (dC, dI) CLS (wS ad T (sF (sF t 6 v_4) 6 v_6)) H := hP
    have hD : va_D A (wS ad T (sF (sF t 6 v_4) 6 v_6)) := hD
    refine lv_aload_n hx hb de_S_tryFilling_71 rfl (lv_at hl 1 rfl) ?_
    refine va_get (D := (dC, dI)) (ci := 0) (v := .ref (ad 6)) (C := "StabilitySums") (T := TB_S) (N := 10) hx hb hts ui_S hown hK hP 0 rfl rfl 5 (by decide) (hts _ uw_261) (fun _ h9 => h9) rfl de_S_tryFilling_72 ?_
    refine lv_lload hx hb de_S_tryFilling_75 (lv_at hl 0 rfl) ?_
    refine lv_aload_n hx hb de_S_tryFilling_77 rfl (lv_at hl 1 rfl) ?_
    refine va_get (D := (dC, dI)) (ci := 0) (v := .ref (ad 2)) (C := "StabilitySums") (T := TB_S) (N := 10) hx hb hts ui_S hown hK hP 0 rfl rfl 1 (by decide) (hts _ uw_257) (fun _ h9 => h9) rfl de_S_tryFilling_78 ?_
    refine va_get (D := (dC, dI)) (ci := 2) (v := .ref (ad 15)) (C := "StabilitySums$Tanks") (T := TB_T) (N := 9) hx hb hts ui_T hown hK hP 2 rfl rfl 2 (by decide) (hts _ uw_91) (fun _ h9 => h9) rfl de_S_tryFilling_81 ?_
    refine lv_iload_n hx hb de_S_tryFilling_84 rfl (lv_at hl 2 rfl) ?_
    refine rw_lald (f := t.1 6) (j := i) hx hb hK hP 15 0 rfl rfl (by omega) (by decide) de_S_tryFilling_85 ?_
    refine lv_aload_n hx hb de_S_tryFilling_86 rfl (lv_at hl 1 rfl) ?_
    refine va_get (D := (dC, dI)) (ci := 0) (v := .ref (ad 2)) (C := "StabilitySums") (T := TB_S) (N := 10) hx hb hts ui_S hown hK hP 0 rfl rfl 1 (by decide) (hts _ uw_257) (fun _ h9 => h9) rfl de_S_tryFilling_87 ?_
    refine va_get (D := (dC, dI)) (ci := 2) (v := .ref (ad 16)) (C := "StabilitySums$Tanks") (T := TB_T) (N := 9) hx hb hts ui_T hown hK hP 2 rfl rfl 3 (by decide) (hts _ uw_93) (fun _ h9 => h9) rfl de_S_tryFilling_90 ?_
    refine lv_iload_n hx hb de_S_tryFilling_93 rfl (lv_at hl 2 rfl) ?_
    refine rw_lald (f := t.1 7) (j := i) hx hb hK hP 16 0 rfl rfl (by omega) (by decide) de_S_tryFilling_94 ?_
    refine lv_aload_n hx hb de_S_tryFilling_95 rfl (lv_at hl 1 rfl) ?_
    refine va_get (D := (dC, dI)) (ci := 0) (v := .ref (ad 2)) (C := "StabilitySums") (T := TB_S) (N := 10) hx hb hts ui_S hown hK hP 0 rfl rfl 1 (by decide) (hts _ uw_257) (fun _ h9 => h9) rfl de_S_tryFilling_96 ?_
    refine va_get (D := (dC, dI)) (ci := 2) (v := .ref (ad 17)) (C := "StabilitySums$Tanks") (T := TB_T) (N := 9) hx hb hts ui_T hown hK hP 2 rfl rfl 4 (by decide) (hts _ uw_95) (fun _ h9 => h9) rfl de_S_tryFilling_99 ?_
    refine lv_iload_n hx hb de_S_tryFilling_102 rfl (lv_at hl 2 rfl) ?_
    refine rw_lald (f := t.1 8) (j := i) hx hb hK hP 17 0 rfl rfl (by omega) (by decide) de_S_tryFilling_103 ?_
    refine cl_Vv (As := [.long v_1, .long (t.1 6 i), .long (t.1 7 i), .long (t.1 8 i)]) (rest := []) ⟨hx, hb, hml, hown, hts⟩ (mt_U_add l dC dI ad T (sF (sF t 6 v_4) 6 v_6) v_1 (t.1 6 i) (t.1 7 i) (t.1 8 i)) (cwV 4 hts (uw_V uw_321 uw_322 uw_323 uw_33 uw_324) rfl rfl rfl (by decide +kernel) ⟨Nat.le_of_ble_eq_true rfl, Nat.le_of_ble_eq_true rfl⟩) (va_recv hK hP (ci := 6) (q0 := 6) rfl rfl) rfl hl.1 rfl (Nat.le_of_ble_eq_true rfl) de_S_tryFilling_104 ⟨Nat.zero_le _, Nat.zero_le _⟩ hK hN hP hD hS hA (fun _ H locs hw_7 hP hD hS => ?_)
    obtain ⟨t_8, et_8⟩ : ∃ z, z = x_uadd v_1 (t.1 6 i) (t.1 7 i) (t.1 8 i) (sF (sF t 6 v_4) 6 v_6) := ⟨_, rfl⟩
    have hP : va_P (dC, dI) CLS (wS ad T t_8) H := by rw [et_8]; exact hP
    have hD : va_D A (wS ad T t_8) := by rw [et_8]; exact hD
    obtain ⟨_, _, _, _, _, _⟩ : N6p t_8 t := by rw [et_8]; exact nsix (x_uadd_N _ _ _ _ _)
    refine lv_aload_n hx hb de_S_tryFilling_107 rfl (lv_at hl 1 rfl) ?_
    refine va_get (D := (dC, dI)) (ci := 0) (v := .ref (ad 7)) (C := "StabilitySums") (T := TB_S) (N := 10) hx hb hts ui_S hown hK hP 0 rfl rfl 6 (by decide) (hts _ uw_262) (fun _ h9 => h9) rfl de_S_tryFilling_108 ?_
    refine lv_lload hx hb de_S_tryFilling_111 (lv_at hl 0 rfl) ?_
    refine lv_aload_n hx hb de_S_tryFilling_113 rfl (lv_at hl 1 rfl) ?_
    refine va_get (D := (dC, dI)) (ci := 0) (v := .ref (ad 2)) (C := "StabilitySums") (T := TB_S) (N := 10) hx hb hts ui_S hown hK hP 0 rfl rfl 1 (by decide) (hts _ uw_257) (fun _ h9 => h9) rfl de_S_tryFilling_114 ?_
    refine va_get (D := (dC, dI)) (ci := 2) (v := .ref (ad 15)) (C := "StabilitySums$Tanks") (T := TB_T) (N := 9) hx hb hts ui_T hown hK hP 2 rfl rfl 2 (by decide) (hts _ uw_91) (fun _ h9 => h9) rfl de_S_tryFilling_117 ?_
    refine lv_iload_n hx hb de_S_tryFilling_120 rfl (lv_at hl 2 rfl) ?_
    refine rw_lald (f := t_8.1 6) (j := i) hx hb hK hP 15 0 rfl rfl (by omega) (by decide) de_S_tryFilling_121 ?_
    refine cl_Vv (As := [.long v_1, .long (t_8.1 6 i)]) (rest := []) ⟨hx, hb, hml, hown, hts⟩ (mt_C_add l dC dI ad T t_8 v_1 (t_8.1 6 i) (show t_8.2.2.2 5 ≤ 10 from by omega)) (cwV 2 hts (uw_V uw_325 uw_326 uw_327 uw_34 uw_328) rfl rfl rfl (by decide +kernel) ⟨Nat.le_of_ble_eq_true rfl, Nat.le_of_ble_eq_true rfl⟩) (va_recv hK hP (ci := 7) (q0 := 7) rfl rfl) rfl hl.1 rfl (Nat.le_of_ble_eq_true rfl) de_S_tryFilling_122 ⟨Nat.zero_le _, Nat.zero_le _⟩ hK hN hP hD hS hA (fun _ H locs hw_9 hP hD hS => ?_)
    obtain ⟨t_10, et_10⟩ : ∃ z, z = x_cutsAdd v_1 (t_8.1 6 i) t_8 := ⟨_, rfl⟩
    have hP : va_P (dC, dI) CLS (wS ad T t_10) H := by rw [et_10]; exact hP
    have hD : va_D A (wS ad T t_10) := by rw [et_10]; exact hD
    obtain ⟨_, _, _, _, _, _⟩ : N6p t_10 t_8 := by rw [et_10]; exact nsix (x_cutsAdd_N _ _ _)
    refine lv_aload_n hx hb de_S_tryFilling_125 rfl (lv_at hl 1 rfl) ?_
    refine va_get (D := (dC, dI)) (ci := 0) (v := .ref (ad 2)) (C := "StabilitySums") (T := TB_S) (N := 10) hx hb hts ui_S hown hK hP 0 rfl rfl 1 (by decide) (hts _ uw_257) (fun _ h9 => h9) rfl de_S_tryFilling_126 ?_
    refine va_get (D := (dC, dI)) (ci := 2) (v := .ref (ad 19)) (C := "StabilitySums$Tanks") (T := TB_T) (N := 9) hx hb hts ui_T hown hK hP 2 rfl rfl 6 (by decide) (hts _ uw_99) (fun _ h9 => h9) rfl de_S_tryFilling_129 ?_
    refine lv_iload_n hx hb de_S_tryFilling_132 rfl (lv_at hl 2 rfl) ?_
    refine lv_lload_n hx hb de_S_tryFilling_133 rfl (lv_at hl 3 rfl) ?_
    refine rw_last (f := t_10.1 10) (j := i) (x := a1) hx hb hK hP hD hS 19 0 rfl rfl (by omega) (by decide) de_S_tryFilling_134 (fun H locs hP hD hS => ?_)
    have hP : va_P (dC, dI) CLS (wS ad T (sL t_10 10 i a1)) H := hP
    have hD : va_D A (wS ad T (sL t_10 10 i a1)) := hD
    have hfin : (sL t_10 10 i a1) = x_fillT i a1 t := by
      subst_vars; unfold x_fillT; first | (rw [if_pos c_2]; done) | (rw [if_neg c_2]; rfl)
    rw [hfin] at hP hD
    subst hQ
    exact W.vret hx hb hr (fun t9 ht hW => ⟨⟨(), rfl, trivial, by rw [ht]; exact hP, va_K.moved hW.alike hK, hD⟩, hS.F ht⟩) hS.2.2 de_S_tryFilling_135
  · skip
    have hfin : t = x_fillT i a1 t := by
      subst_vars; unfold x_fillT; first | (rw [if_pos c_2]; done) | (rw [if_neg c_2]; rfl)
    rw [hfin] at hP hD
    subst hQ
    exact W.vret hx hb hr (fun t9 ht hW => ⟨⟨(), rfl, trivial, by rw [ht]; exact hP, va_K.moved hW.alike hK, hD⟩, hS.F ht⟩) hS.2.2 de_S_tryFilling_20
set_option maxHeartbeats 4000000 in
set_option maxRecDepth 100000 in
theorem mt_S_tryStep (l : Launch) (dC : Nat → ClassId) (dI : Nat → Nat → Nat) (ad : Nat → Nat) (T : Nat → ClassId) (t : St) (i : Nat) (hI : Iv t) (hi0 : i < 20) (hs1 : t.2.1 2 i = nI (t.2.1 2 i).toNatClampNeg) (hs2 : t.2.1 1 i = 0 → (t.2.1 2 i).toNatClampNeg < 40) (hs3 : ¬ t.2.1 1 i = 0 → (t.2.1 2 i).toNatClampNeg < 4) (sz : Nat) : Met l yn_S_tryStep (.code yn_S_tryStep cd_S_tryStep 2 none :: UW) ({ frames := 3, cells := 0, slots := 0, locals := 71 } : Room) (va_Pc [.ref (ad 0), .int (nI i)] (Pw (dC, dI) CLS (TY T) (wS ad T t) sz)) (va_Qv (fun _ : Unit => True) (Bw (dC, dI) CLS (TY T) (fun _ : Unit => (wS ad T (x_stp i t))) (va_A (wS ad T t) sz)) (va_A (wS ad T t) sz)) 0 0 (va_A (wS ad T t) sz) := by
  refine Met.ofW (cc := cd_S_tryStep) (maxL := 2) (ret := none) (by decide) rfl ?_
  intro p e s m args below meth c s₁ B hml hv
  obtain ⟨rfl, hsz, hP, hK, hD0, hN⟩ := hv
  have hx := B.exec
  have hb := B.bytes
  have hr := B.returns
  have hts : ∀ w ∈ UW, w.before _ s = true := fun w h => atoms_spec (ws := .code yn_S_tryStep cd_S_tryStep 2 none :: UW) B.pre w (List.mem_cons_of_mem _ h)
  have hown : s.vm.findClass "StabilitySums" = some m.cls := findClass_of_methodNamed B.named
  have hlocks := B.notSynchronized
  subst hsz
  have hD := hD0.self (sz := s.heap.size)
  generalize hAe : va_A (wS ad T t) s.heap.size = A at hD ⊢
  have hA : ∀ q : Nat, s.heap.size ≤ q → A q := fun q h => by rw [← hAe]; exact Or.inr h
  have hS : va_S A s.heap s.heap [] := va_S.rf
  have hl := lv_entry ([.ref (ad 0), .int (nI i)]) (n := 2) (Nat.le_of_ble_eq_true rfl)
  rw [lg_entry_eq]
  generalize (lg_sl ([.ref (ad 0), .int (nI i)]) ++ List.replicate (2 - (lg_sl ([.ref (ad 0), .int (nI i)])).length) Slot.unset).toArray = ls at hl ⊢
  have hl : lv_has ls 2 [(0, .ref (ad 0)), (1, .int (nI i))] := hl
  generalize hQ : MQ below _ _ s 0 0 A = Q
  obtain ⟨hI0, hI1, hI2, hI3, hI4, hI5⟩ := hI
  refine lv_aload_n hx hb de_S_tryStep_0 rfl (lv_at hl 0 rfl) ?_
  refine va_get (D := (dC, dI)) (ci := 0) (v := .ref (ad 5)) (C := "StabilitySums") (T := TB_S) (N := 10) hx hb hts ui_S hown hK hP 0 rfl rfl 4 (by decide) (hts _ uw_260) (fun _ h9 => h9) rfl de_S_tryStep_1 ?_
  refine va_get (D := (dC, dI)) (ci := 5) (v := .ref (ad 27)) (C := "StabilitySums$Steps") (T := TB_E) (N := 4) hx hb hts ui_E hown hK hP 5 rfl rfl 0 (by decide) (hts _ uw_174) (fun _ h9 => h9) rfl de_S_tryStep_4 ?_
  refine lv_iload_n hx hb de_S_tryStep_7 rfl (lv_at hl 1 rfl) ?_
  refine rw_zald (f := t.2.1 1) (j := i) hx hb hK hP 27 2 rfl rfl (by omega) (by decide) de_S_tryStep_8 ?_
  refine lv_if_eq (tgt := 37) hx hb de_S_tryStep_9 (by decide) (fun c_1 => ?_) (fun c_1 => ?_)
  · skip
    refine lv_aload_n hx hb de_S_tryStep_37 rfl (lv_at hl 0 rfl) ?_
    refine lv_aload_n hx hb de_S_tryStep_38 rfl (lv_at hl 0 rfl) ?_
    refine va_get (D := (dC, dI)) (ci := 0) (v := .ref (ad 5)) (C := "StabilitySums") (T := TB_S) (N := 10) hx hb hts ui_S hown hK hP 0 rfl rfl 4 (by decide) (hts _ uw_260) (fun _ h9 => h9) rfl de_S_tryStep_39 ?_
    refine va_get (D := (dC, dI)) (ci := 5) (v := .ref (ad 28)) (C := "StabilitySums$Steps") (T := TB_E) (N := 4) hx hb hts ui_E hown hK hP 5 rfl rfl 1 (by decide) (hts _ uw_176) (fun _ h9 => h9) rfl de_S_tryStep_42 ?_
    refine lv_iload_n hx hb de_S_tryStep_45 rfl (lv_at hl 1 rfl) ?_
    refine rw_iald (f := t.2.1 2) (j := i) hx hb hK hP 28 1 rfl rfl (by omega) (by decide) de_S_tryStep_46 ?_
    refine lv_aload_n hx hb de_S_tryStep_47 rfl (lv_at hl 0 rfl) ?_
    refine va_get (D := (dC, dI)) (ci := 0) (v := .ref (ad 5)) (C := "StabilitySums") (T := TB_S) (N := 10) hx hb hts ui_S hown hK hP 0 rfl rfl 4 (by decide) (hts _ uw_260) (fun _ h9 => h9) rfl de_S_tryStep_48 ?_
    refine va_get (D := (dC, dI)) (ci := 5) (v := .ref (ad 29)) (C := "StabilitySums$Steps") (T := TB_E) (N := 4) hx hb hts ui_E hown hK hP 5 rfl rfl 2 (by decide) (hts _ uw_178) (fun _ h9 => h9) rfl de_S_tryStep_51 ?_
    refine lv_iload_n hx hb de_S_tryStep_54 rfl (lv_at hl 1 rfl) ?_
    refine rw_lald (f := t.1 17) (j := i) hx hb hK hP 29 0 rfl rfl (by omega) (by decide) de_S_tryStep_55 ?_
    have hix_56 : (t.2.1 2 i) = nI ((t.2.1 2 i).toNatClampNeg) := hs1
    rw [hix_56]
    refine cl_Vv (As := [.int (nI ((t.2.1 2 i).toNatClampNeg)), .long (t.1 17 i)]) (rest := []) ⟨hx, hb, hml, hown, hts⟩ (mt_S_tryMore l dC dI ad T t ((t.2.1 2 i).toNatClampNeg) (t.1 17 i) (show Iv t from (by refine ⟨?_, ?_, ?_, ?_, ?_, ?_⟩ <;> omega)) (hs2 c_1)) (cwV 2 hts (uw_V uw_317 uw_319 uw_1 uw_27 uw_320) rfl rfl rfl (by decide +kernel) ⟨Nat.le_of_ble_eq_true rfl, Nat.le_of_ble_eq_true rfl⟩) (va_recv hK hP (ci := 0) (q0 := 0) rfl rfl) rfl hl.1 rfl (Nat.le_of_ble_eq_true rfl) de_S_tryStep_56 ⟨Nat.zero_le _, Nat.zero_le _⟩ hK hN hP hD hS hA (fun _ H locs hw_2 hP hD hS => ?_)
    obtain ⟨t_3, et_3⟩ : ∃ z, z = x_more ((t.2.1 2 i).toNatClampNeg) (t.1 17 i) t := ⟨_, rfl⟩
    have hP : va_P (dC, dI) CLS (wS ad T t_3) H := by rw [et_3]; exact hP
    have hD : va_D A (wS ad T t_3) := by rw [et_3]; exact hD
    obtain ⟨_, _, _, _, _, _⟩ : N6p t_3 t := by rw [et_3]; exact nsix (x_more_N _ _ _)
    have hfin : t_3 = x_stp i t := by
      subst_vars; unfold x_stp; first | rw [if_pos c_1] | rw [if_neg c_1]
    rw [hfin] at hP hD
    subst hQ
    exact W.vret hx hb hr (fun t9 ht hW => ⟨⟨(), rfl, trivial, by rw [ht]; exact hP, va_K.moved hW.alike hK, hD⟩, hS.F ht⟩) hS.2.2 de_S_tryStep_59
  · skip
    refine lv_aload_n hx hb de_S_tryStep_12 rfl (lv_at hl 0 rfl) ?_
    refine lv_aload_n hx hb de_S_tryStep_13 rfl (lv_at hl 0 rfl) ?_
    refine va_get (D := (dC, dI)) (ci := 0) (v := .ref (ad 5)) (C := "StabilitySums") (T := TB_S) (N := 10) hx hb hts ui_S hown hK hP 0 rfl rfl 4 (by decide) (hts _ uw_260) (fun _ h9 => h9) rfl de_S_tryStep_14 ?_
    refine va_get (D := (dC, dI)) (ci := 5) (v := .ref (ad 28)) (C := "StabilitySums$Steps") (T := TB_E) (N := 4) hx hb hts ui_E hown hK hP 5 rfl rfl 1 (by decide) (hts _ uw_176) (fun _ h9 => h9) rfl de_S_tryStep_17 ?_
    refine lv_iload_n hx hb de_S_tryStep_20 rfl (lv_at hl 1 rfl) ?_
    refine rw_iald (f := t.2.1 2) (j := i) hx hb hK hP 28 1 rfl rfl (by omega) (by decide) de_S_tryStep_21 ?_
    refine lv_aload_n hx hb de_S_tryStep_22 rfl (lv_at hl 0 rfl) ?_
    refine va_get (D := (dC, dI)) (ci := 0) (v := .ref (ad 5)) (C := "StabilitySums") (T := TB_S) (N := 10) hx hb hts ui_S hown hK hP 0 rfl rfl 4 (by decide) (hts _ uw_260) (fun _ h9 => h9) rfl de_S_tryStep_23 ?_
    refine va_get (D := (dC, dI)) (ci := 5) (v := .ref (ad 29)) (C := "StabilitySums$Steps") (T := TB_E) (N := 4) hx hb hts ui_E hown hK hP 5 rfl rfl 2 (by decide) (hts _ uw_178) (fun _ h9 => h9) rfl de_S_tryStep_26 ?_
    refine lv_iload_n hx hb de_S_tryStep_29 rfl (lv_at hl 1 rfl) ?_
    refine rw_lald (f := t.1 17) (j := i) hx hb hK hP 29 0 rfl rfl (by omega) (by decide) de_S_tryStep_30 ?_
    have hix_31 : (t.2.1 2 i) = nI ((t.2.1 2 i).toNatClampNeg) := hs1
    rw [hix_31]
    refine cl_Vv (As := [.int (nI ((t.2.1 2 i).toNatClampNeg)), .long (t.1 17 i)]) (rest := []) ⟨hx, hb, hml, hown, hts⟩ (mt_S_tryFilling l dC dI ad T t ((t.2.1 2 i).toNatClampNeg) (t.1 17 i) (show Iv t from (by refine ⟨?_, ?_, ?_, ?_, ?_, ?_⟩ <;> omega)) (hs3 c_1)) (cwV 2 hts (uw_V uw_329 uw_331 uw_2 uw_27 uw_332) rfl rfl rfl (by decide +kernel) ⟨Nat.le_of_ble_eq_true rfl, Nat.le_of_ble_eq_true rfl⟩) (va_recv hK hP (ci := 0) (q0 := 0) rfl rfl) rfl hl.1 rfl (Nat.le_of_ble_eq_true rfl) de_S_tryStep_31 ⟨Nat.zero_le _, Nat.zero_le _⟩ hK hN hP hD hS hA (fun _ H locs hw_4 hP hD hS => ?_)
    obtain ⟨t_5, et_5⟩ : ∃ z, z = x_fillT ((t.2.1 2 i).toNatClampNeg) (t.1 17 i) t := ⟨_, rfl⟩
    have hP : va_P (dC, dI) CLS (wS ad T t_5) H := by rw [et_5]; exact hP
    have hD : va_D A (wS ad T t_5) := by rw [et_5]; exact hD
    obtain ⟨_, _, _, _, _, _⟩ : N6p t_5 t := by rw [et_5]; exact nsix (x_fillT_N _ _ _)
    refine lv_goto (tgt := 59) hx hb de_S_tryStep_34 (by decide) ?_
    have hfin : t_5 = x_stp i t := by
      subst_vars; unfold x_stp; first | rw [if_pos c_1] | rw [if_neg c_1]
    rw [hfin] at hP hD
    subst hQ
    exact W.vret hx hb hr (fun t9 ht hW => ⟨⟨(), rfl, trivial, by rw [ht]; exact hP, va_K.moved hW.alike hK, hD⟩, hS.F ht⟩) hS.2.2 de_S_tryStep_59
set_option maxHeartbeats 4000000 in
set_option maxRecDepth 100000 in
theorem mt_S_gather (l : Launch) (dC : Nat → ClassId) (dI : Nat → Nat → Nat) (ad : Nat → Nat) (T : Nat → ClassId) (t : St)  (hI : Iv t) (sz : Nat) : Met l yn_S_gather (.code yn_S_gather cd_S_gather 2 none :: UW) ({ frames := 3, cells := 0, slots := 0, locals := 71 } : Room) (va_Pc [.ref (ad 0)] (Pw (dC, dI) CLS (TY T) (wS ad T t) sz)) (va_Qv (fun _ : Unit => True) (Bw (dC, dI) CLS (TY T) (fun _ : Unit => (wS ad T (x_gath t))) (va_A (wS ad T t) sz)) (va_A (wS ad T t) sz)) 0 0 (va_A (wS ad T t) sz) := by
  refine Met.ofW (cc := cd_S_gather) (maxL := 2) (ret := none) (by decide) rfl ?_
  intro p e s m args below meth c s₁ B hml hv
  obtain ⟨rfl, hsz, hP, hK, hD0, hN⟩ := hv
  have hx := B.exec
  have hb := B.bytes
  have hr := B.returns
  have hts : ∀ w ∈ UW, w.before _ s = true := fun w h => atoms_spec (ws := .code yn_S_gather cd_S_gather 2 none :: UW) B.pre w (List.mem_cons_of_mem _ h)
  have hown : s.vm.findClass "StabilitySums" = some m.cls := findClass_of_methodNamed B.named
  have hlocks := B.notSynchronized
  subst hsz
  have hD := hD0.self (sz := s.heap.size)
  generalize hAe : va_A (wS ad T t) s.heap.size = A at hD ⊢
  have hA : ∀ q : Nat, s.heap.size ≤ q → A q := fun q h => by rw [← hAe]; exact Or.inr h
  have hS : va_S A s.heap s.heap [] := va_S.rf
  have hl := lv_entry ([.ref (ad 0)]) (n := 2) (Nat.le_of_ble_eq_true rfl)
  rw [lg_entry_eq]
  generalize (lg_sl ([.ref (ad 0)]) ++ List.replicate (2 - (lg_sl ([.ref (ad 0)])).length) Slot.unset).toArray = ls at hl ⊢
  have hl : lv_has ls 2 [(0, .ref (ad 0))] := hl
  generalize hQ : MQ below _ _ s 0 0 A = Q
  obtain ⟨hI0, hI1, hI2, hI3, hI4, hI5⟩ := hI
  refine lv_aload_n hx hb de_S_gather_0 rfl (lv_at hl 0 rfl) ?_
  refine va_get (D := (dC, dI)) (ci := 0) (v := .ref (ad 6)) (C := "StabilitySums") (T := TB_S) (N := 10) hx hb hts ui_S hown hK hP 0 rfl rfl 5 (by decide) (hts _ uw_261) (fun _ h9 => h9) rfl de_S_gather_1 ?_
  refine cl_Vv (As := []) (rest := []) ⟨hx, hb, hml, hown, hts⟩ (mt_U_clear l dC dI ad T t ) (cwV 0 hts (uw_V uw_306 uw_307 uw_308 uw_33 uw_309) rfl rfl rfl (by decide +kernel) ⟨Nat.le_of_ble_eq_true rfl, Nat.le_of_ble_eq_true rfl⟩) (va_recv hK hP (ci := 6) (q0 := 6) rfl rfl) rfl hl.1 rfl (Nat.le_of_ble_eq_true rfl) de_S_gather_4 ⟨Nat.zero_le _, Nat.zero_le _⟩ hK hN hP hD hS hA (fun _ H locs hw_1 hP hD hS => ?_)
  obtain ⟨t_2, et_2⟩ : ∃ z, z = x_uclr t := ⟨_, rfl⟩
  have hP : va_P (dC, dI) CLS (wS ad T t_2) H := by rw [et_2]; exact hP
  have hD : va_D A (wS ad T t_2) := by rw [et_2]; exact hD
  obtain ⟨_, _, _, _, _, _⟩ : N6p t_2 t := by rw [et_2]; exact nsix rfl
  refine lv_aload_n hx hb de_S_gather_7 rfl (lv_at hl 0 rfl) ?_
  refine va_get (D := (dC, dI)) (ci := 0) (v := .ref (ad 7)) (C := "StabilitySums") (T := TB_S) (N := 10) hx hb hts ui_S hown hK hP 0 rfl rfl 6 (by decide) (hts _ uw_262) (fun _ h9 => h9) rfl de_S_gather_8 ?_
  refine lv_aload_n hx hb de_S_gather_11 rfl (lv_at hl 0 rfl) ?_
  refine va_get (D := (dC, dI)) (ci := 0) (v := .ref (ad 4)) (C := "StabilitySums") (T := TB_S) (N := 10) hx hb hts ui_S hown hK hP 0 rfl rfl 3 (by decide) (hts _ uw_259) (fun _ h9 => h9) rfl de_S_gather_12 ?_
  refine va_get (D := (dC, dI)) (ci := 4) (v := .int (nI (t_2.2.2.2 3))) (C := "StabilitySums$Limits") (T := TB_L) (N := 4) hx hb hts ui_L hown hK hP 4 rfl rfl 3 (by decide) (hts _ uw_156) (fun _ h9 => h9) rfl de_S_gather_15 ?_
  refine cl_Vv (As := [.int (nI (t_2.2.2.2 3))]) (rest := []) ⟨hx, hb, hml, hown, hts⟩ (mt_C_clear l dC dI ad T t_2 (t_2.2.2.2 3) (show (t_2.2.2.2 3) ≤ 10 from by omega)) (cwV 1 hts (uw_V uw_310 uw_311 uw_312 uw_34 uw_313) rfl rfl rfl (by decide +kernel) ⟨Nat.le_of_ble_eq_true rfl, Nat.le_of_ble_eq_true rfl⟩) (va_recv hK hP (ci := 7) (q0 := 7) rfl rfl) rfl hl.1 rfl (Nat.le_of_ble_eq_true rfl) de_S_gather_18 ⟨Nat.zero_le _, Nat.zero_le _⟩ hK hN hP hD hS hA (fun _ H locs hw_3 hP hD hS => ?_)
  obtain ⟨t_4, et_4⟩ : ∃ z, z = x_cclr ((t_2.2.2.2 3) + 1) 0 (sN t_2 5 (t_2.2.2.2 3)) := ⟨_, rfl⟩
  have hP : va_P (dC, dI) CLS (wS ad T t_4) H := by rw [et_4]; exact hP
  have hD : va_D A (wS ad T t_4) := by rw [et_4]; exact hD
  obtain ⟨_, _, _, _, _, _⟩ : t_4.2.2.2 0 = t.2.2.2 0 ∧ t_4.2.2.2 1 = t.2.2.2 1 ∧ t_4.2.2.2 2 = t.2.2.2 2 ∧ t_4.2.2.2 3 = t.2.2.2 3 ∧ t_4.2.2.2 4 = t.2.2.2 4 ∧ t_4.2.2.2 5 = t.2.2.2 3 := by rw [et_4, x_cclr_N]; subst_vars; exact ⟨rfl, rfl, rfl, rfl, rfl, rfl⟩
  refine lv_iconst (v := 0) hx hb de_S_gather_21 (by decide) ?_
  refine lv_istore_n (lv' := [(1, .int 0), (0, .ref (ad 0))]) hx hb de_S_gather_22 rfl hl (by decide) rfl (fun ls hl => ?_)
  have loop_23 : ∀ (n : Nat) (i : Nat) (t1 : St), (i + n = t.2.2.2 0) → (N6p t1 t_4) → (x_gw n i t1 = x_gw (t.2.2.2 0) 0 t_4) → ∀ (H : Heap) (locs : List Loc) (ls : Array Slot), va_P (dC, dI) CLS (wS ad T t1) H → va_D A (wS ad T t1) → va_S A s.heap H locs → lv_has ls 2 [(0, .ref (ad 0)), (1, .int (nI i))] → W p l e (headSpec (.code yn_S_gather cd_S_gather 2 none :: UW) ({ frames := 3, cells := 0, slots := 0, locals := 71 } : Room)).room s m ([.ref (ad 0)] : List Value).toArray below meth c H locs 0 0 Q (F0 m 23 ls []) := by
    intro n
    induction n with
    | zero =>
      intro i t1 hi hk hq H locs ls hP hD hS hl
      obtain ⟨_, _, _, _, _, _⟩ := hk
      refine lv_iload_n hx hb de_S_gather_23 rfl (lv_at hl 1 rfl) ?_
      refine lv_aload_n hx hb de_S_gather_24 rfl (lv_at hl 0 rfl) ?_
      refine va_get (D := (dC, dI)) (ci := 0) (v := .ref (ad 1)) (C := "StabilitySums") (T := TB_S) (N := 10) hx hb hts ui_S hown hK hP 0 rfl rfl 0 (by decide) (hts _ uw_256) (fun _ h9 => h9) rfl de_S_gather_25 ?_
      refine va_get (D := (dC, dI)) (ci := 1) (v := .int (nI (t1.2.2.2 0))) (C := "StabilitySums$Weights") (T := TB_W) (N := 5) hx hb hts ui_W hown hK hP 1 rfl rfl 4 (by decide) (hts _ uw_68) (fun _ h9 => h9) rfl de_S_gather_28 ?_
      refine lv_icmp_ge (tgt := 54) hx hb de_S_gather_31 (by decide) (fun c_5 => ?_) (fun c_5 => ?_)
      · skip
        have c_5 : (t1.2.2.2 0) ≤ i := (nI_leI (a := (t1.2.2.2 0)) (b := i) (by omega) (by omega)).mp c_5
        refine lv_iconst (v := 0) hx hb de_S_gather_54 (by decide) ?_
        refine lv_istore_n (lv' := [(1, .int 0), (0, .ref (ad 0))]) hx hb de_S_gather_55 rfl hl (by decide) rfl (fun ls hl => ?_)
        have loop_56 : ∀ (n : Nat) (i : Nat) (t2 : St), (i + n = t.2.2.2 1) → (N6p t2 t1) → (x_gt n i t2 = x_gath t) → ∀ (H : Heap) (locs : List Loc) (ls : Array Slot), va_P (dC, dI) CLS (wS ad T t2) H → va_D A (wS ad T t2) → va_S A s.heap H locs → lv_has ls 2 [(0, .ref (ad 0)), (1, .int (nI i))] → W p l e (headSpec (.code yn_S_gather cd_S_gather 2 none :: UW) ({ frames := 3, cells := 0, slots := 0, locals := 71 } : Room)).room s m ([.ref (ad 0)] : List Value).toArray below meth c H locs 0 0 Q (F0 m 56 ls []) := by
          intro n
          induction n with
          | zero =>
            intro i t2 hi2 hk2 hq2 H locs ls hP hD hS hl
            obtain ⟨_, _, _, _, _, _⟩ := hk2
            refine lv_iload_n hx hb de_S_gather_56 rfl (lv_at hl 1 rfl) ?_
            refine lv_aload_n hx hb de_S_gather_57 rfl (lv_at hl 0 rfl) ?_
            refine va_get (D := (dC, dI)) (ci := 0) (v := .ref (ad 2)) (C := "StabilitySums") (T := TB_S) (N := 10) hx hb hts ui_S hown hK hP 0 rfl rfl 1 (by decide) (hts _ uw_257) (fun _ h9 => h9) rfl de_S_gather_58 ?_
            refine va_get (D := (dC, dI)) (ci := 2) (v := .int (nI (t2.2.2.2 1))) (C := "StabilitySums$Tanks") (T := TB_T) (N := 9) hx hb hts ui_T hown hK hP 2 rfl rfl 8 (by decide) (hts _ uw_103) (fun _ h9 => h9) rfl de_S_gather_61 ?_
            refine lv_icmp_ge (tgt := 97) hx hb de_S_gather_64 (by decide) (fun c_6 => ?_) (fun c_6 => ?_)
            · skip
              have c_6 : (t2.2.2.2 1) ≤ i := (nI_leI (a := (t2.2.2.2 1)) (b := i) (by omega) (by omega)).mp c_6
              have hfin : t2 = x_gath t := by
                exact hq2
              rw [hfin] at hP hD
              subst hQ
              exact W.vret hx hb hr (fun t9 ht hW => ⟨⟨(), rfl, trivial, by rw [ht]; exact hP, va_K.moved hW.alike hK, hD⟩, hS.F ht⟩) hS.2.2 de_S_gather_97
            · skip
              have c_6 : ¬ ((t2.2.2.2 1) ≤ i) := fun z => c_6 ((nI_leI (a := (t2.2.2.2 1)) (b := i) (by omega) (by omega)).mpr z)
              exfalso; omega
          | succ n ih =>
            intro i t2 hi2 hk2 hq2 H locs ls hP hD hS hl
            obtain ⟨_, _, _, _, _, _⟩ := hk2
            refine lv_iload_n hx hb de_S_gather_56 rfl (lv_at hl 1 rfl) ?_
            refine lv_aload_n hx hb de_S_gather_57 rfl (lv_at hl 0 rfl) ?_
            refine va_get (D := (dC, dI)) (ci := 0) (v := .ref (ad 2)) (C := "StabilitySums") (T := TB_S) (N := 10) hx hb hts ui_S hown hK hP 0 rfl rfl 1 (by decide) (hts _ uw_257) (fun _ h9 => h9) rfl de_S_gather_58 ?_
            refine va_get (D := (dC, dI)) (ci := 2) (v := .int (nI (t2.2.2.2 1))) (C := "StabilitySums$Tanks") (T := TB_T) (N := 9) hx hb hts ui_T hown hK hP 2 rfl rfl 8 (by decide) (hts _ uw_103) (fun _ h9 => h9) rfl de_S_gather_61 ?_
            refine lv_icmp_ge (tgt := 97) hx hb de_S_gather_64 (by decide) (fun c_7 => ?_) (fun c_7 => ?_)
            · skip
              have c_7 : (t2.2.2.2 1) ≤ i := (nI_leI (a := (t2.2.2.2 1)) (b := i) (by omega) (by omega)).mp c_7
              exfalso; omega
            · skip
              have c_7 : ¬ ((t2.2.2.2 1) ≤ i) := fun z => c_7 ((nI_leI (a := (t2.2.2.2 1)) (b := i) (by omega) (by omega)).mpr z)
              refine lv_aload_n hx hb de_S_gather_67 rfl (lv_at hl 0 rfl) ?_
              refine va_get (D := (dC, dI)) (ci := 0) (v := .ref (ad 2)) (C := "StabilitySums") (T := TB_S) (N := 10) hx hb hts ui_S hown hK hP 0 rfl rfl 1 (by decide) (hts _ uw_257) (fun _ h9 => h9) rfl de_S_gather_68 ?_
              refine va_get (D := (dC, dI)) (ci := 2) (v := .ref (ad 19)) (C := "StabilitySums$Tanks") (T := TB_T) (N := 9) hx hb hts ui_T hown hK hP 2 rfl rfl 6 (by decide) (hts _ uw_99) (fun _ h9 => h9) rfl de_S_gather_71 ?_
              refine lv_iload_n hx hb de_S_gather_74 rfl (lv_at hl 1 rfl) ?_
              refine lv_lconst (v := 0) hx hb de_S_gather_75 (by decide) ?_
              refine rw_last (f := t2.1 10) (j := i) (x := 0) hx hb hK hP hD hS 19 0 rfl rfl (by omega) (by decide) de_S_gather_76 (fun H locs hP hD hS => ?_)
              have hP : va_P (dC, dI) CLS (wS ad T (sL t2 10 i 0)) H := hP
              have hD : va_D A (wS ad T (sL t2 10 i 0)) := hD
              refine lv_aload_n hx hb de_S_gather_77 rfl (lv_at hl 0 rfl) ?_
              refine lv_iload_n hx hb de_S_gather_78 rfl (lv_at hl 1 rfl) ?_
              refine lv_aload_n hx hb de_S_gather_79 rfl (lv_at hl 0 rfl) ?_
              refine va_get (D := (dC, dI)) (ci := 0) (v := .ref (ad 2)) (C := "StabilitySums") (T := TB_S) (N := 10) hx hb hts ui_S hown hK hP 0 rfl rfl 1 (by decide) (hts _ uw_257) (fun _ h9 => h9) rfl de_S_gather_80 ?_
              refine va_get (D := (dC, dI)) (ci := 2) (v := .ref (ad 18)) (C := "StabilitySums$Tanks") (T := TB_T) (N := 9) hx hb hts ui_T hown hK hP 2 rfl rfl 5 (by decide) (hts _ uw_97) (fun _ h9 => h9) rfl de_S_gather_83 ?_
              refine lv_iload_n hx hb de_S_gather_86 rfl (lv_at hl 1 rfl) ?_
              refine rw_lald (f := t2.1 9) (j := i) hx hb hK hP 18 0 rfl rfl (by omega) (by decide) de_S_gather_87 ?_
              refine cl_Vv (As := [.int (nI i), .long (t2.1 9 i)]) (rest := []) ⟨hx, hb, hml, hown, hts⟩ (mt_S_tryFilling l dC dI ad T (sL t2 10 i 0) i (t2.1 9 i) (show Iv t2 from (by refine ⟨?_, ?_, ?_, ?_, ?_, ?_⟩ <;> omega)) (show i < 4 from by omega)) (cwV 2 hts (uw_V uw_329 uw_331 uw_2 uw_27 uw_332) rfl rfl rfl (by decide +kernel) ⟨Nat.le_of_ble_eq_true rfl, Nat.le_of_ble_eq_true rfl⟩) (va_recv hK hP (ci := 0) (q0 := 0) rfl rfl) rfl hl.1 rfl (Nat.le_of_ble_eq_true rfl) de_S_gather_88 ⟨Nat.zero_le _, Nat.zero_le _⟩ hK hN hP hD hS hA (fun _ H locs hw_8 hP hD hS => ?_)
              obtain ⟨t_9, et_9⟩ : ∃ z, z = x_fillT i (t2.1 9 i) (sL t2 10 i 0) := ⟨_, rfl⟩
              have hP : va_P (dC, dI) CLS (wS ad T t_9) H := by rw [et_9]; exact hP
              have hD : va_D A (wS ad T t_9) := by rw [et_9]; exact hD
              obtain ⟨_, _, _, _, _, _⟩ : N6p t_9 t2 := by rw [et_9]; exact nsix (x_fillT_N _ _ _)
              refine lv_iinc (v := (nI (i + 1))) (lv' := [(1, .int (nI (i + 1))), (0, .ref (ad 0))]) hx hb de_S_gather_91 hl (k := 1) rfl (nI_1 i) (by decide) rfl (fun ls hl => ?_)
              refine lv_goto (tgt := 56) hx hb de_S_gather_94 (by decide) ?_
              exact ih (i + 1) t_9 (by omega) (by refine ⟨?_, ?_, ?_, ?_, ?_, ?_⟩ <;> omega) (by rw [← hq2, x_gt, et_9]) H locs ls hP hD hS (lv_sub hl [1, 0] rfl)
        exact loop_56 (t.2.2.2 1) 0 t1 (by omega) (nsix rfl) (by have h1 : t1 = _ := hq; rw [h1]; subst_vars; rfl) _ _ ls hP hD hS (lv_sub hl [1, 0] rfl)
      · skip
        have c_5 : ¬ ((t1.2.2.2 0) ≤ i) := fun z => c_5 ((nI_leI (a := (t1.2.2.2 0)) (b := i) (by omega) (by omega)).mpr z)
        exfalso; omega
    | succ n ih =>
      intro i t1 hi hk hq H locs ls hP hD hS hl
      obtain ⟨_, _, _, _, _, _⟩ := hk
      refine lv_iload_n hx hb de_S_gather_23 rfl (lv_at hl 1 rfl) ?_
      refine lv_aload_n hx hb de_S_gather_24 rfl (lv_at hl 0 rfl) ?_
      refine va_get (D := (dC, dI)) (ci := 0) (v := .ref (ad 1)) (C := "StabilitySums") (T := TB_S) (N := 10) hx hb hts ui_S hown hK hP 0 rfl rfl 0 (by decide) (hts _ uw_256) (fun _ h9 => h9) rfl de_S_gather_25 ?_
      refine va_get (D := (dC, dI)) (ci := 1) (v := .int (nI (t1.2.2.2 0))) (C := "StabilitySums$Weights") (T := TB_W) (N := 5) hx hb hts ui_W hown hK hP 1 rfl rfl 4 (by decide) (hts _ uw_68) (fun _ h9 => h9) rfl de_S_gather_28 ?_
      refine lv_icmp_ge (tgt := 54) hx hb de_S_gather_31 (by decide) (fun c_10 => ?_) (fun c_10 => ?_)
      · skip
        have c_10 : (t1.2.2.2 0) ≤ i := (nI_leI (a := (t1.2.2.2 0)) (b := i) (by omega) (by omega)).mp c_10
        exfalso; omega
      · skip
        have c_10 : ¬ ((t1.2.2.2 0) ≤ i) := fun z => c_10 ((nI_leI (a := (t1.2.2.2 0)) (b := i) (by omega) (by omega)).mpr z)
        refine lv_aload_n hx hb de_S_gather_34 rfl (lv_at hl 0 rfl) ?_
        refine lv_iload_n hx hb de_S_gather_35 rfl (lv_at hl 1 rfl) ?_
        refine lv_aload_n hx hb de_S_gather_36 rfl (lv_at hl 0 rfl) ?_
        refine va_get (D := (dC, dI)) (ci := 0) (v := .ref (ad 1)) (C := "StabilitySums") (T := TB_S) (N := 10) hx hb hts ui_S hown hK hP 0 rfl rfl 0 (by decide) (hts _ uw_256) (fun _ h9 => h9) rfl de_S_gather_37 ?_
        refine va_get (D := (dC, dI)) (ci := 1) (v := .ref (ad 9)) (C := "StabilitySums$Weights") (T := TB_W) (N := 5) hx hb hts ui_W hown hK hP 1 rfl rfl 0 (by decide) (hts _ uw_60) (fun _ h9 => h9) rfl de_S_gather_40 ?_
        refine lv_iload_n hx hb de_S_gather_43 rfl (lv_at hl 1 rfl) ?_
        refine rw_lald (f := t1.1 0) (j := i) hx hb hK hP 9 0 rfl rfl (by omega) (by decide) de_S_gather_44 ?_
        refine cl_Vv (As := [.int (nI i), .long (t1.1 0 i)]) (rest := []) ⟨hx, hb, hml, hown, hts⟩ (mt_S_tryMore l dC dI ad T t1 i (t1.1 0 i) (show Iv t1 from (by refine ⟨?_, ?_, ?_, ?_, ?_, ?_⟩ <;> omega)) (show i < 40 from by omega)) (cwV 2 hts (uw_V uw_317 uw_319 uw_1 uw_27 uw_320) rfl rfl rfl (by decide +kernel) ⟨Nat.le_of_ble_eq_true rfl, Nat.le_of_ble_eq_true rfl⟩) (va_recv hK hP (ci := 0) (q0 := 0) rfl rfl) rfl hl.1 rfl (Nat.le_of_ble_eq_true rfl) de_S_gather_45 ⟨Nat.zero_le _, Nat.zero_le _⟩ hK hN hP hD hS hA (fun _ H locs hw_11 hP hD hS => ?_)
        obtain ⟨t_12, et_12⟩ : ∃ z, z = x_more i (t1.1 0 i) t1 := ⟨_, rfl⟩
        have hP : va_P (dC, dI) CLS (wS ad T t_12) H := by rw [et_12]; exact hP
        have hD : va_D A (wS ad T t_12) := by rw [et_12]; exact hD
        obtain ⟨_, _, _, _, _, _⟩ : N6p t_12 t1 := by rw [et_12]; exact nsix (x_more_N _ _ _)
        refine lv_iinc (v := (nI (i + 1))) (lv' := [(1, .int (nI (i + 1))), (0, .ref (ad 0))]) hx hb de_S_gather_48 hl (k := 1) rfl (nI_1 i) (by decide) rfl (fun ls hl => ?_)
        refine lv_goto (tgt := 23) hx hb de_S_gather_51 (by decide) ?_
        exact ih (i + 1) t_12 (by omega) (by refine ⟨?_, ?_, ?_, ?_, ?_, ?_⟩ <;> omega) (by rw [← hq, x_gw, et_12]) H locs ls hP hD hS (lv_sub hl [1, 0] rfl)
  exact loop_23 (t.2.2.2 0) 0 t_4 (by omega) (nsix rfl) rfl _ _ ls hP hD hS (lv_sub hl [1, 0] rfl)
set_option maxHeartbeats 4000000 in
set_option maxRecDepth 100000 in
theorem mt_S_isWithoutAnswer (l : Launch) (dC : Nat → ClassId) (dI : Nat → Nat → Nat) (ad : Nat → Nat) (T : Nat → ClassId) (t : St) (a0 : Int32)  (sz : Nat) : Met l yn_S_isWithoutAnswer (.code yn_S_isWithoutAnswer cd_S_isWithoutAnswer 2 (some .boolean) :: UW) ({ frames := 0, cells := 0, slots := 0, locals := 0 } : Room) (va_Pc [.ref (ad 0), .int a0] (Pw (dC, dI) CLS (TY T) (wS ad T t) sz)) (va_Qi (fun (r : Int32) (_ : Unit) => bz r (x_noans a0 t)) (Bw (dC, dI) CLS (TY T) (fun _ : Unit => (wS ad T t)) (va_A (wS ad T t) sz)) (va_A (wS ad T t) sz)) 0 0 (va_A (wS ad T t) sz) := by
  refine Met.ofW (cc := cd_S_isWithoutAnswer) (maxL := 2) (ret := (some .boolean)) (by decide) rfl ?_
  intro p e s m args below meth c s₁ B hml hv
  obtain ⟨rfl, hsz, hP, hK, hD0, hN⟩ := hv
  have hx := B.exec
  have hb := B.bytes
  have hr := B.returns
  have hts : ∀ w ∈ UW, w.before _ s = true := fun w h => atoms_spec (ws := .code yn_S_isWithoutAnswer cd_S_isWithoutAnswer 2 (some .boolean) :: UW) B.pre w (List.mem_cons_of_mem _ h)
  have hown : s.vm.findClass "StabilitySums" = some m.cls := findClass_of_methodNamed B.named
  have hlocks := B.notSynchronized
  subst hsz
  have hD := hD0.self (sz := s.heap.size)
  generalize hAe : va_A (wS ad T t) s.heap.size = A at hD ⊢
  have hA : ∀ q : Nat, s.heap.size ≤ q → A q := fun q h => by rw [← hAe]; exact Or.inr h
  have hS : va_S A s.heap s.heap [] := va_S.rf
  have hl := lv_entry ([.ref (ad 0), .int a0]) (n := 2) (Nat.le_of_ble_eq_true rfl)
  rw [lg_entry_eq]
  generalize (lg_sl ([.ref (ad 0), .int a0]) ++ List.replicate (2 - (lg_sl ([.ref (ad 0), .int a0])).length) Slot.unset).toArray = ls at hl ⊢
  have hl : lv_has ls 2 [(0, .ref (ad 0)), (1, .int a0)] := hl
  generalize hQ : MQ below _ _ s 0 0 A = Q
  refine lv_aload_n hx hb de_S_isWithoutAnswer_0 rfl (lv_at hl 0 rfl) ?_
  refine va_get (D := (dC, dI)) (ci := 0) (v := .ref (ad 6)) (C := "StabilitySums") (T := TB_S) (N := 10) hx hb hts ui_S hown hK hP 0 rfl rfl 5 (by decide) (hts _ uw_261) (fun _ h9 => h9) rfl de_S_isWithoutAnswer_1 ?_
  refine va_get (D := (dC, dI)) (ci := 6) (v := .long (t.2.2.1 2)) (C := "StabilitySums$Sums") (T := TB_U) (N := 5) hx hb hts ui_U hown hK hP 6 rfl rfl 0 (by decide) (hts _ uw_198) (fun _ h9 => h9) rfl de_S_isWithoutAnswer_4 ?_
  refine lv_lconst (v := 0) hx hb de_S_isWithoutAnswer_7 (by decide) ?_
  refine rw_ne (tgt := 26) hx hb de_S_isWithoutAnswer_8 de_S_isWithoutAnswer_9 (by decide) (fun c_1 => ?_) (fun c_1 => ?_)
  · skip
    refine lv_iconst (v := 0) hx hb de_S_isWithoutAnswer_26 (by decide) ?_
    subst hQ
    have hpost : bz 0 (x_noans a0 t) := by
      first | exact Or.inl ⟨rfl, by simp only [x_noans]; grind⟩ | exact Or.inr ⟨rfl, by simp only [x_noans]; grind⟩
    exact W.zret (v := 0) hx hb hr (bz_nar hpost) (fun t9 ht hW => ⟨⟨0, (), rfl, hpost, by rw [ht]; exact hP, va_K.moved hW.alike hK, hD⟩, hS.F ht⟩) hS.2.2 de_S_isWithoutAnswer_27
  · skip
    refine lv_iload_n hx hb de_S_isWithoutAnswer_12 rfl (lv_at hl 1 rfl) ?_
    refine lv_if_eq (tgt := 26) hx hb de_S_isWithoutAnswer_13 (by decide) (fun c_2 => ?_) (fun c_2 => ?_)
    · skip
      refine lv_iconst (v := 0) hx hb de_S_isWithoutAnswer_26 (by decide) ?_
      subst hQ
      have hpost : bz 0 (x_noans a0 t) := by
        first | exact Or.inl ⟨rfl, by simp only [x_noans]; grind⟩ | exact Or.inr ⟨rfl, by simp only [x_noans]; grind⟩
      exact W.zret (v := 0) hx hb hr (bz_nar hpost) (fun t9 ht hW => ⟨⟨0, (), rfl, hpost, by rw [ht]; exact hP, va_K.moved hW.alike hK, hD⟩, hS.F ht⟩) hS.2.2 de_S_isWithoutAnswer_27
    · skip
      refine lv_iload_n hx hb de_S_isWithoutAnswer_16 rfl (lv_at hl 1 rfl) ?_
      refine lv_bipush (v := 6) hx hb de_S_isWithoutAnswer_17 (by decide) ?_
      refine lv_icmp_eq (tgt := 26) hx hb de_S_isWithoutAnswer_19 (by decide) (fun c_3 => ?_) (fun c_3 => ?_)
      · skip
        refine lv_iconst (v := 0) hx hb de_S_isWithoutAnswer_26 (by decide) ?_
        subst hQ
        have hpost : bz 0 (x_noans a0 t) := by
          first | exact Or.inl ⟨rfl, by simp only [x_noans]; grind⟩ | exact Or.inr ⟨rfl, by simp only [x_noans]; grind⟩
        exact W.zret (v := 0) hx hb hr (bz_nar hpost) (fun t9 ht hW => ⟨⟨0, (), rfl, hpost, by rw [ht]; exact hP, va_K.moved hW.alike hK, hD⟩, hS.F ht⟩) hS.2.2 de_S_isWithoutAnswer_27
      · skip
        refine lv_iconst (v := 1) hx hb de_S_isWithoutAnswer_22 (by decide) ?_
        refine lv_goto (tgt := 27) hx hb de_S_isWithoutAnswer_23 (by decide) ?_
        subst hQ
        have hpost : bz 1 (x_noans a0 t) := by
          first | exact Or.inl ⟨rfl, by simp only [x_noans]; grind⟩ | exact Or.inr ⟨rfl, by simp only [x_noans]; grind⟩
        exact W.zret (v := 1) hx hb hr (bz_nar hpost) (fun t9 ht hW => ⟨⟨1, (), rfl, hpost, by rw [ht]; exact hP, va_K.moved hW.alike hK, hD⟩, hS.F ht⟩) hS.2.2 de_S_isWithoutAnswer_27
set_option maxHeartbeats 4000000 in
set_option maxRecDepth 100000 in
theorem mt_S_work (l : Launch) (dC : Nat → ClassId) (dI : Nat → Nat → Nat) (ad : Nat → Nat) (T : Nat → ClassId) (t : St) (a0 : Int32) (hI : Iv t) (sz : Nat) : Met l yn_S_work (.code yn_S_work cd_S_work 4 none :: UW) ({ frames := 2, cells := 0, slots := 0, locals := 55 } : Room) (va_Pc [.ref (ad 0), .int a0] (Pw (dC, dI) CLS (TY T) (wS ad T t) sz)) (va_Qv (fun _ : Unit => True) (Bw (dC, dI) CLS (TY T) (fun _ : Unit => (wS ad T (x_work a0 t))) (va_A (wS ad T t) sz)) (va_A (wS ad T t) sz)) 0 0 (va_A (wS ad T t) sz) := by
  refine Met.ofW (cc := cd_S_work) (maxL := 4) (ret := none) (by decide) rfl ?_
  intro p e s m args below meth c s₁ B hml hv
  obtain ⟨rfl, hsz, hP, hK, hD0, hN⟩ := hv
  have hx := B.exec
  have hb := B.bytes
  have hr := B.returns
  have hts : ∀ w ∈ UW, w.before _ s = true := fun w h => atoms_spec (ws := .code yn_S_work cd_S_work 4 none :: UW) B.pre w (List.mem_cons_of_mem _ h)
  have hown : s.vm.findClass "StabilitySums" = some m.cls := findClass_of_methodNamed B.named
  have hlocks := B.notSynchronized
  subst hsz
  have hD := hD0.self (sz := s.heap.size)
  generalize hAe : va_A (wS ad T t) s.heap.size = A at hD ⊢
  have hA : ∀ q : Nat, s.heap.size ≤ q → A q := fun q h => by rw [← hAe]; exact Or.inr h
  have hS : va_S A s.heap s.heap [] := va_S.rf
  have hl := lv_entry ([.ref (ad 0), .int a0]) (n := 4) (Nat.le_of_ble_eq_true rfl)
  rw [lg_entry_eq]
  generalize (lg_sl ([.ref (ad 0), .int a0]) ++ List.replicate (4 - (lg_sl ([.ref (ad 0), .int a0])).length) Slot.unset).toArray = ls at hl ⊢
  have hl : lv_has ls 4 [(0, .ref (ad 0)), (1, .int a0)] := hl
  generalize hQ : MQ below _ _ s 0 0 A = Q
  obtain ⟨hI0, hI1, hI2, hI3, hI4, hI5⟩ := hI
  refine lv_aload_n hx hb de_S_work_0 rfl (lv_at hl 0 rfl) ?_
  refine va_get (D := (dC, dI)) (ci := 0) (v := .ref (ad 6)) (C := "StabilitySums") (T := TB_S) (N := 10) hx hb hts ui_S hown hK hP 0 rfl rfl 5 (by decide) (hts _ uw_261) (fun _ h9 => h9) rfl de_S_work_1 ?_
  refine va_get (D := (dC, dI)) (ci := 6) (v := .long (t.2.2.1 2)) (C := "StabilitySums$Sums") (T := TB_U) (N := 5) hx hb hts ui_U hown hK hP 6 rfl rfl 0 (by decide) (hts _ uw_198) (fun _ h9 => h9) rfl de_S_work_4 ?_
  refine lv_lstore_n (lv' := [(2, .long (t.2.2.1 2)), (0, .ref (ad 0)), (1, .int a0)]) hx hb de_S_work_7 rfl hl (by decide) rfl (fun ls hl => ?_)
  refine lv_iload_n hx hb de_S_work_8 rfl (lv_at hl 2 rfl) ?_
  by_cases c_1_1 : a0 = 1
  · skip
    refine lv_tableIn (tgt := 52) hx hb de_S_work_9 (by rw [c_1_1]; decide) (by rw [c_1_1]; decide) (by rw [c_1_1]; rfl) (by decide) ?_
    refine lv_aload_n hx hb de_S_work_52 rfl (lv_at hl 1 rfl) ?_
    refine va_get (D := (dC, dI)) (ci := 0) (v := .ref (ad 8)) (C := "StabilitySums") (T := TB_S) (N := 10) hx hb hts ui_S hown hK hP 0 rfl rfl 7 (by decide) (hts _ uw_263) (fun _ h9 => h9) rfl de_S_work_53 ?_
    refine lv_aload_n hx hb de_S_work_56 rfl (lv_at hl 1 rfl) ?_
    refine va_get (D := (dC, dI)) (ci := 0) (v := .ref (ad 6)) (C := "StabilitySums") (T := TB_S) (N := 10) hx hb hts ui_S hown hK hP 0 rfl rfl 5 (by decide) (hts _ uw_261) (fun _ h9 => h9) rfl de_S_work_57 ?_
    refine va_get (D := (dC, dI)) (ci := 6) (v := .long (t.2.2.1 3)) (C := "StabilitySums$Sums") (T := TB_U) (N := 5) hx hb hts ui_U hown hK hP 6 rfl rfl 1 (by decide) (hts _ uw_200) (fun _ h9 => h9) rfl de_S_work_60 ?_
    refine lv_lload_n hx hb de_S_work_63 rfl (lv_at hl 0 rfl) ?_
    refine cl_Vv (As := [.long (t.2.2.1 3), .long (t.2.2.1 2)]) (rest := []) ⟨hx, hb, hml, hown, hts⟩ (mt_F_put l dC dI ad T t (t.2.2.1 3) (t.2.2.1 2)) (cwV 2 hts (uw_V uw_376 uw_377 uw_378 uw_35 uw_379) rfl rfl rfl (by decide +kernel) ⟨Nat.le_of_ble_eq_true rfl, Nat.le_of_ble_eq_true rfl⟩) (va_recv hK hP (ci := 8) (q0 := 8) rfl rfl) rfl hl.1 rfl (Nat.le_of_ble_eq_true rfl) de_S_work_64 ⟨Nat.zero_le _, Nat.zero_le _⟩ hK hN hP hD hS hA (fun _ H locs hw_2 hP hD hS => ?_)
    obtain ⟨t_3, et_3⟩ : ∃ z, z = x_put (t.2.2.1 3) (t.2.2.1 2) t := ⟨_, rfl⟩
    have hP : va_P (dC, dI) CLS (wS ad T t_3) H := by rw [et_3]; exact hP
    have hD : va_D A (wS ad T t_3) := by rw [et_3]; exact hD
    obtain ⟨_, _, _, _, _, _⟩ : N6p t_3 t := by rw [et_3]; exact nsix (x_put_N _ _ _)
    refine lv_goto (tgt := 272) hx hb de_S_work_67 (by decide) ?_
    have hfin : t_3 = x_work a0 t := by
      first | (subst_vars; rfl) | (subst_vars; simp only [x_work, c_1_1, ↓reduceIte])
    rw [hfin] at hP hD
    subst hQ
    exact W.vret hx hb hr (fun t9 ht hW => ⟨⟨(), rfl, trivial, by rw [ht]; exact hP, va_K.moved hW.alike hK, hD⟩, hS.F ht⟩) hS.2.2 de_S_work_272
  by_cases c_1_2 : a0 = 2
  · skip
    refine lv_tableIn (tgt := 70) hx hb de_S_work_9 (by rw [c_1_2]; decide) (by rw [c_1_2]; decide) (by rw [c_1_2]; rfl) (by decide) ?_
    refine lv_aload_n hx hb de_S_work_70 rfl (lv_at hl 1 rfl) ?_
    refine va_get (D := (dC, dI)) (ci := 0) (v := .ref (ad 8)) (C := "StabilitySums") (T := TB_S) (N := 10) hx hb hts ui_S hown hK hP 0 rfl rfl 7 (by decide) (hts _ uw_263) (fun _ h9 => h9) rfl de_S_work_71 ?_
    refine lv_aload_n hx hb de_S_work_74 rfl (lv_at hl 1 rfl) ?_
    refine va_get (D := (dC, dI)) (ci := 0) (v := .ref (ad 6)) (C := "StabilitySums") (T := TB_S) (N := 10) hx hb hts ui_S hown hK hP 0 rfl rfl 5 (by decide) (hts _ uw_261) (fun _ h9 => h9) rfl de_S_work_75 ?_
    refine va_get (D := (dC, dI)) (ci := 6) (v := .long (t.2.2.1 4)) (C := "StabilitySums$Sums") (T := TB_U) (N := 5) hx hb hts ui_U hown hK hP 6 rfl rfl 2 (by decide) (hts _ uw_202) (fun _ h9 => h9) rfl de_S_work_78 ?_
    refine lv_lload_n hx hb de_S_work_81 rfl (lv_at hl 0 rfl) ?_
    refine cl_Vv (As := [.long (t.2.2.1 4), .long (t.2.2.1 2)]) (rest := []) ⟨hx, hb, hml, hown, hts⟩ (mt_F_put l dC dI ad T t (t.2.2.1 4) (t.2.2.1 2)) (cwV 2 hts (uw_V uw_376 uw_377 uw_378 uw_35 uw_379) rfl rfl rfl (by decide +kernel) ⟨Nat.le_of_ble_eq_true rfl, Nat.le_of_ble_eq_true rfl⟩) (va_recv hK hP (ci := 8) (q0 := 8) rfl rfl) rfl hl.1 rfl (Nat.le_of_ble_eq_true rfl) de_S_work_82 ⟨Nat.zero_le _, Nat.zero_le _⟩ hK hN hP hD hS hA (fun _ H locs hw_4 hP hD hS => ?_)
    obtain ⟨t_5, et_5⟩ : ∃ z, z = x_put (t.2.2.1 4) (t.2.2.1 2) t := ⟨_, rfl⟩
    have hP : va_P (dC, dI) CLS (wS ad T t_5) H := by rw [et_5]; exact hP
    have hD : va_D A (wS ad T t_5) := by rw [et_5]; exact hD
    obtain ⟨_, _, _, _, _, _⟩ : N6p t_5 t := by rw [et_5]; exact nsix (x_put_N _ _ _)
    refine lv_goto (tgt := 272) hx hb de_S_work_85 (by decide) ?_
    have hfin : t_5 = x_work a0 t := by
      first | (subst_vars; rfl) | (subst_vars; simp only [x_work, c_1_2, ↓reduceIte])
    rw [hfin] at hP hD
    subst hQ
    exact W.vret hx hb hr (fun t9 ht hW => ⟨⟨(), rfl, trivial, by rw [ht]; exact hP, va_K.moved hW.alike hK, hD⟩, hS.F ht⟩) hS.2.2 de_S_work_272
  by_cases c_1_3 : a0 = 3
  · skip
    refine lv_tableIn (tgt := 88) hx hb de_S_work_9 (by rw [c_1_3]; decide) (by rw [c_1_3]; decide) (by rw [c_1_3]; rfl) (by decide) ?_
    refine lv_aload_n hx hb de_S_work_88 rfl (lv_at hl 1 rfl) ?_
    refine va_get (D := (dC, dI)) (ci := 0) (v := .ref (ad 8)) (C := "StabilitySums") (T := TB_S) (N := 10) hx hb hts ui_S hown hK hP 0 rfl rfl 7 (by decide) (hts _ uw_263) (fun _ h9 => h9) rfl de_S_work_89 ?_
    refine lv_aload_n hx hb de_S_work_92 rfl (lv_at hl 1 rfl) ?_
    refine va_get (D := (dC, dI)) (ci := 0) (v := .ref (ad 6)) (C := "StabilitySums") (T := TB_S) (N := 10) hx hb hts ui_S hown hK hP 0 rfl rfl 5 (by decide) (hts _ uw_261) (fun _ h9 => h9) rfl de_S_work_93 ?_
    refine va_get (D := (dC, dI)) (ci := 6) (v := .long (t.2.2.1 5)) (C := "StabilitySums$Sums") (T := TB_U) (N := 5) hx hb hts ui_U hown hK hP 6 rfl rfl 3 (by decide) (hts _ uw_204) (fun _ h9 => h9) rfl de_S_work_96 ?_
    refine lv_lload_n hx hb de_S_work_99 rfl (lv_at hl 0 rfl) ?_
    refine cl_Vv (As := [.long (t.2.2.1 5), .long (t.2.2.1 2)]) (rest := []) ⟨hx, hb, hml, hown, hts⟩ (mt_F_put l dC dI ad T t (t.2.2.1 5) (t.2.2.1 2)) (cwV 2 hts (uw_V uw_376 uw_377 uw_378 uw_35 uw_379) rfl rfl rfl (by decide +kernel) ⟨Nat.le_of_ble_eq_true rfl, Nat.le_of_ble_eq_true rfl⟩) (va_recv hK hP (ci := 8) (q0 := 8) rfl rfl) rfl hl.1 rfl (Nat.le_of_ble_eq_true rfl) de_S_work_100 ⟨Nat.zero_le _, Nat.zero_le _⟩ hK hN hP hD hS hA (fun _ H locs hw_6 hP hD hS => ?_)
    obtain ⟨t_7, et_7⟩ : ∃ z, z = x_put (t.2.2.1 5) (t.2.2.1 2) t := ⟨_, rfl⟩
    have hP : va_P (dC, dI) CLS (wS ad T t_7) H := by rw [et_7]; exact hP
    have hD : va_D A (wS ad T t_7) := by rw [et_7]; exact hD
    obtain ⟨_, _, _, _, _, _⟩ : N6p t_7 t := by rw [et_7]; exact nsix (x_put_N _ _ _)
    refine lv_goto (tgt := 272) hx hb de_S_work_103 (by decide) ?_
    have hfin : t_7 = x_work a0 t := by
      first | (subst_vars; rfl) | (subst_vars; simp only [x_work, c_1_3, ↓reduceIte])
    rw [hfin] at hP hD
    subst hQ
    exact W.vret hx hb hr (fun t9 ht hW => ⟨⟨(), rfl, trivial, by rw [ht]; exact hP, va_K.moved hW.alike hK, hD⟩, hS.F ht⟩) hS.2.2 de_S_work_272
  by_cases c_1_4 : a0 = 4
  · skip
    refine lv_tableIn (tgt := 106) hx hb de_S_work_9 (by rw [c_1_4]; decide) (by rw [c_1_4]; decide) (by rw [c_1_4]; rfl) (by decide) ?_
    refine lv_aload_n hx hb de_S_work_106 rfl (lv_at hl 1 rfl) ?_
    refine va_get (D := (dC, dI)) (ci := 0) (v := .ref (ad 8)) (C := "StabilitySums") (T := TB_S) (N := 10) hx hb hts ui_S hown hK hP 0 rfl rfl 7 (by decide) (hts _ uw_263) (fun _ h9 => h9) rfl de_S_work_107 ?_
    refine lv_aload_n hx hb de_S_work_110 rfl (lv_at hl 1 rfl) ?_
    refine va_get (D := (dC, dI)) (ci := 0) (v := .ref (ad 6)) (C := "StabilitySums") (T := TB_S) (N := 10) hx hb hts ui_S hown hK hP 0 rfl rfl 5 (by decide) (hts _ uw_261) (fun _ h9 => h9) rfl de_S_work_111 ?_
    refine va_get (D := (dC, dI)) (ci := 6) (v := .long (t.2.2.1 5)) (C := "StabilitySums$Sums") (T := TB_U) (N := 5) hx hb hts ui_U hown hK hP 6 rfl rfl 3 (by decide) (hts _ uw_204) (fun _ h9 => h9) rfl de_S_work_114 ?_
    refine lv_aload_n hx hb de_S_work_117 rfl (lv_at hl 1 rfl) ?_
    refine va_get (D := (dC, dI)) (ci := 0) (v := .ref (ad 6)) (C := "StabilitySums") (T := TB_S) (N := 10) hx hb hts ui_S hown hK hP 0 rfl rfl 5 (by decide) (hts _ uw_261) (fun _ h9 => h9) rfl de_S_work_118 ?_
    refine va_get (D := (dC, dI)) (ci := 6) (v := .long (t.2.2.1 6)) (C := "StabilitySums$Sums") (T := TB_U) (N := 5) hx hb hts ui_U hown hK hP 6 rfl rfl 4 (by decide) (hts _ uw_206) (fun _ h9 => h9) rfl de_S_work_121 ?_
    refine lv_ladd hx hb de_S_work_124 ?_
    refine lv_topl (fun v_8 ev_8 => ?_)
    have ev_8 : v_8 = (t.2.2.1 5) + (t.2.2.1 6) := ev_8
    refine lv_lload_n hx hb de_S_work_125 rfl (lv_at hl 0 rfl) ?_
    refine cl_Vv (As := [.long v_8, .long (t.2.2.1 2)]) (rest := []) ⟨hx, hb, hml, hown, hts⟩ (mt_F_put l dC dI ad T t v_8 (t.2.2.1 2)) (cwV 2 hts (uw_V uw_376 uw_377 uw_378 uw_35 uw_379) rfl rfl rfl (by decide +kernel) ⟨Nat.le_of_ble_eq_true rfl, Nat.le_of_ble_eq_true rfl⟩) (va_recv hK hP (ci := 8) (q0 := 8) rfl rfl) rfl hl.1 rfl (Nat.le_of_ble_eq_true rfl) de_S_work_126 ⟨Nat.zero_le _, Nat.zero_le _⟩ hK hN hP hD hS hA (fun _ H locs hw_9 hP hD hS => ?_)
    obtain ⟨t_10, et_10⟩ : ∃ z, z = x_put v_8 (t.2.2.1 2) t := ⟨_, rfl⟩
    have hP : va_P (dC, dI) CLS (wS ad T t_10) H := by rw [et_10]; exact hP
    have hD : va_D A (wS ad T t_10) := by rw [et_10]; exact hD
    obtain ⟨_, _, _, _, _, _⟩ : N6p t_10 t := by rw [et_10]; exact nsix (x_put_N _ _ _)
    refine lv_goto (tgt := 272) hx hb de_S_work_129 (by decide) ?_
    have hfin : t_10 = x_work a0 t := by
      first | (subst_vars; rfl) | (subst_vars; simp only [x_work, c_1_4, ↓reduceIte])
    rw [hfin] at hP hD
    subst hQ
    exact W.vret hx hb hr (fun t9 ht hW => ⟨⟨(), rfl, trivial, by rw [ht]; exact hP, va_K.moved hW.alike hK, hD⟩, hS.F ht⟩) hS.2.2 de_S_work_272
  by_cases c_1_5 : a0 = 5
  · skip
    refine lv_tableIn (tgt := 132) hx hb de_S_work_9 (by rw [c_1_5]; decide) (by rw [c_1_5]; decide) (by rw [c_1_5]; rfl) (by decide) ?_
    refine lv_aload_n hx hb de_S_work_132 rfl (lv_at hl 1 rfl) ?_
    refine va_get (D := (dC, dI)) (ci := 0) (v := .ref (ad 3)) (C := "StabilitySums") (T := TB_S) (N := 10) hx hb hts ui_S hown hK hP 0 rfl rfl 2 (by decide) (hts _ uw_258) (fun _ h9 => h9) rfl de_S_work_133 ?_
    refine lv_aload_n hx hb de_S_work_136 rfl (lv_at hl 1 rfl) ?_
    refine va_get (D := (dC, dI)) (ci := 0) (v := .ref (ad 3)) (C := "StabilitySums") (T := TB_S) (N := 10) hx hb hts ui_S hown hK hP 0 rfl rfl 2 (by decide) (hts _ uw_258) (fun _ h9 => h9) rfl de_S_work_137 ?_
    refine va_get (D := (dC, dI)) (ci := 3) (v := .ref (ad 22)) (C := "StabilitySums$Table") (T := TB_B) (N := 4) hx hb hts ui_B hown hK hP 3 rfl rfl 1 (by decide) (hts _ uw_131) (fun _ h9 => h9) rfl de_S_work_140 ?_
    refine lv_lload_n hx hb de_S_work_143 rfl (lv_at hl 0 rfl) ?_
    refine lv_aload_n hx hb de_S_work_144 rfl (lv_at hl 1 rfl) ?_
    refine va_get (D := (dC, dI)) (ci := 0) (v := .ref (ad 8)) (C := "StabilitySums") (T := TB_S) (N := 10) hx hb hts ui_S hown hK hP 0 rfl rfl 7 (by decide) (hts _ uw_263) (fun _ h9 => h9) rfl de_S_work_145 ?_
    refine cl_Vv (As := [.ref (ad 22), .long (t.2.2.1 2), .ref (ad 8)]) (rest := []) ⟨hx, hb, hml, hown, hts⟩ (mt_B_read13 l dC dI ad T t (t.2.2.1 2) (show t.2.2.2 2 ≤ 12 from by omega)) (cwV 3 hts (uw_V uw_380 uw_381 uw_382 uw_30 uw_383) rfl rfl rfl (by decide +kernel) ⟨Nat.le_of_ble_eq_true rfl, Nat.le_of_ble_eq_true rfl⟩) (va_recv hK hP (ci := 3) (q0 := 3) rfl rfl) rfl hl.1 rfl (Nat.le_of_ble_eq_true rfl) de_S_work_148 ⟨Nat.zero_le _, Nat.zero_le _⟩ hK hN hP hD hS hA (fun _ H locs hw_11 hP hD hS => ?_)
    obtain ⟨t_12, et_12⟩ : ∃ z, z = x_read 13 (t.2.2.1 2) t := ⟨_, rfl⟩
    have hP : va_P (dC, dI) CLS (wS ad T t_12) H := by rw [et_12]; exact hP
    have hD : va_D A (wS ad T t_12) := by rw [et_12]; exact hD
    obtain ⟨_, _, _, _, _, _⟩ : N6p t_12 t := by rw [et_12]; exact nsix (x_read_N _ _ _)
    refine lv_aload_n hx hb de_S_work_151 rfl (lv_at hl 1 rfl) ?_
    refine va_get (D := (dC, dI)) (ci := 0) (v := .ref (ad 8)) (C := "StabilitySums") (T := TB_S) (N := 10) hx hb hts ui_S hown hK hP 0 rfl rfl 7 (by decide) (hts _ uw_263) (fun _ h9 => h9) rfl de_S_work_152 ?_
    refine lv_aload_n hx hb de_S_work_155 rfl (lv_at hl 1 rfl) ?_
    refine va_get (D := (dC, dI)) (ci := 0) (v := .ref (ad 8)) (C := "StabilitySums") (T := TB_S) (N := 10) hx hb hts ui_S hown hK hP 0 rfl rfl 7 (by decide) (hts _ uw_263) (fun _ h9 => h9) rfl de_S_work_156 ?_
    refine va_get (D := (dC, dI)) (ci := 8) (v := .long (t_12.2.2.1 7)) (C := "StabilitySums$Fraction") (T := TB_F) (N := 2) hx hb hts ui_F hown hK hP 8 rfl rfl 0 (by decide) (hts _ uw_247) (fun _ h9 => h9) rfl de_S_work_159 ?_
    refine lv_lload_n hx hb de_S_work_162 rfl (lv_at hl 0 rfl) ?_
    refine lv_lmul hx hb de_S_work_163 ?_
    refine lv_topl (fun v_13 ev_13 => ?_)
    have ev_13 : v_13 = (t_12.2.2.1 7) * (t.2.2.1 2) := ev_13
    refine lv_aload_n hx hb de_S_work_164 rfl (lv_at hl 1 rfl) ?_
    refine va_get (D := (dC, dI)) (ci := 0) (v := .ref (ad 6)) (C := "StabilitySums") (T := TB_S) (N := 10) hx hb hts ui_S hown hK hP 0 rfl rfl 5 (by decide) (hts _ uw_261) (fun _ h9 => h9) rfl de_S_work_165 ?_
    refine va_get (D := (dC, dI)) (ci := 6) (v := .long (t_12.2.2.1 5)) (C := "StabilitySums$Sums") (T := TB_U) (N := 5) hx hb hts ui_U hown hK hP 6 rfl rfl 3 (by decide) (hts _ uw_204) (fun _ h9 => h9) rfl de_S_work_168 ?_
    refine lv_aload_n hx hb de_S_work_171 rfl (lv_at hl 1 rfl) ?_
    refine va_get (D := (dC, dI)) (ci := 0) (v := .ref (ad 6)) (C := "StabilitySums") (T := TB_S) (N := 10) hx hb hts ui_S hown hK hP 0 rfl rfl 5 (by decide) (hts _ uw_261) (fun _ h9 => h9) rfl de_S_work_172 ?_
    refine va_get (D := (dC, dI)) (ci := 6) (v := .long (t_12.2.2.1 6)) (C := "StabilitySums$Sums") (T := TB_U) (N := 5) hx hb hts ui_U hown hK hP 6 rfl rfl 4 (by decide) (hts _ uw_206) (fun _ h9 => h9) rfl de_S_work_175 ?_
    refine lv_ladd hx hb de_S_work_178 ?_
    refine lv_topl (fun v_14 ev_14 => ?_)
    have ev_14 : v_14 = (t_12.2.2.1 5) + (t_12.2.2.1 6) := ev_14
    refine lv_aload_n hx hb de_S_work_179 rfl (lv_at hl 1 rfl) ?_
    refine va_get (D := (dC, dI)) (ci := 0) (v := .ref (ad 8)) (C := "StabilitySums") (T := TB_S) (N := 10) hx hb hts ui_S hown hK hP 0 rfl rfl 7 (by decide) (hts _ uw_263) (fun _ h9 => h9) rfl de_S_work_180 ?_
    refine va_get (D := (dC, dI)) (ci := 8) (v := .long (t_12.2.2.1 8)) (C := "StabilitySums$Fraction") (T := TB_F) (N := 2) hx hb hts ui_F hown hK hP 8 rfl rfl 1 (by decide) (hts _ uw_249) (fun _ h9 => h9) rfl de_S_work_183 ?_
    refine lv_lmul hx hb de_S_work_186 ?_
    refine lv_topl (fun v_15 ev_15 => ?_)
    have ev_15 : v_15 = v_14 * (t_12.2.2.1 8) := ev_15
    refine lv_lsub hx hb de_S_work_187 ?_
    refine lv_topl (fun v_16 ev_16 => ?_)
    have ev_16 : v_16 = v_13 - v_15 := ev_16
    refine lv_aload_n hx hb de_S_work_188 rfl (lv_at hl 1 rfl) ?_
    refine va_get (D := (dC, dI)) (ci := 0) (v := .ref (ad 8)) (C := "StabilitySums") (T := TB_S) (N := 10) hx hb hts ui_S hown hK hP 0 rfl rfl 7 (by decide) (hts _ uw_263) (fun _ h9 => h9) rfl de_S_work_189 ?_
    refine va_get (D := (dC, dI)) (ci := 8) (v := .long (t_12.2.2.1 8)) (C := "StabilitySums$Fraction") (T := TB_F) (N := 2) hx hb hts ui_F hown hK hP 8 rfl rfl 1 (by decide) (hts _ uw_249) (fun _ h9 => h9) rfl de_S_work_192 ?_
    refine lv_lload_n hx hb de_S_work_195 rfl (lv_at hl 0 rfl) ?_
    refine lv_lmul hx hb de_S_work_196 ?_
    refine lv_topl (fun v_17 ev_17 => ?_)
    have ev_17 : v_17 = (t_12.2.2.1 8) * (t.2.2.1 2) := ev_17
    refine cl_Vv (As := [.long v_16, .long v_17]) (rest := []) ⟨hx, hb, hml, hown, hts⟩ (mt_F_put l dC dI ad T t_12 v_16 v_17) (cwV 2 hts (uw_V uw_376 uw_377 uw_378 uw_35 uw_379) rfl rfl rfl (by decide +kernel) ⟨Nat.le_of_ble_eq_true rfl, Nat.le_of_ble_eq_true rfl⟩) (va_recv hK hP (ci := 8) (q0 := 8) rfl rfl) rfl hl.1 rfl (Nat.le_of_ble_eq_true rfl) de_S_work_197 ⟨Nat.zero_le _, Nat.zero_le _⟩ hK hN hP hD hS hA (fun _ H locs hw_18 hP hD hS => ?_)
    obtain ⟨t_19, et_19⟩ : ∃ z, z = x_put v_16 v_17 t_12 := ⟨_, rfl⟩
    have hP : va_P (dC, dI) CLS (wS ad T t_19) H := by rw [et_19]; exact hP
    have hD : va_D A (wS ad T t_19) := by rw [et_19]; exact hD
    obtain ⟨_, _, _, _, _, _⟩ : N6p t_19 t_12 := by rw [et_19]; exact nsix (x_put_N _ _ _)
    refine lv_goto (tgt := 272) hx hb de_S_work_200 (by decide) ?_
    have hfin : t_19 = x_work a0 t := by
      first | (subst_vars; rfl) | (subst_vars; simp only [x_work, c_1_5, ↓reduceIte])
    rw [hfin] at hP hD
    subst hQ
    exact W.vret hx hb hr (fun t9 ht hW => ⟨⟨(), rfl, trivial, by rw [ht]; exact hP, va_K.moved hW.alike hK, hD⟩, hS.F ht⟩) hS.2.2 de_S_work_272
  by_cases c_1_6 : a0 = 6
  · skip
    refine lv_tableIn (tgt := 203) hx hb de_S_work_9 (by rw [c_1_6]; decide) (by rw [c_1_6]; decide) (by rw [c_1_6]; rfl) (by decide) ?_
    refine lv_aload_n hx hb de_S_work_203 rfl (lv_at hl 1 rfl) ?_
    refine va_get (D := (dC, dI)) (ci := 0) (v := .ref (ad 3)) (C := "StabilitySums") (T := TB_S) (N := 10) hx hb hts ui_S hown hK hP 0 rfl rfl 2 (by decide) (hts _ uw_258) (fun _ h9 => h9) rfl de_S_work_204 ?_
    refine lv_aload_n hx hb de_S_work_207 rfl (lv_at hl 1 rfl) ?_
    refine va_get (D := (dC, dI)) (ci := 0) (v := .ref (ad 3)) (C := "StabilitySums") (T := TB_S) (N := 10) hx hb hts ui_S hown hK hP 0 rfl rfl 2 (by decide) (hts _ uw_258) (fun _ h9 => h9) rfl de_S_work_208 ?_
    refine va_get (D := (dC, dI)) (ci := 3) (v := .ref (ad 23)) (C := "StabilitySums$Table") (T := TB_B) (N := 4) hx hb hts ui_B hown hK hP 3 rfl rfl 2 (by decide) (hts _ uw_133) (fun _ h9 => h9) rfl de_S_work_211 ?_
    refine lv_lload_n hx hb de_S_work_214 rfl (lv_at hl 0 rfl) ?_
    refine lv_aload_n hx hb de_S_work_215 rfl (lv_at hl 1 rfl) ?_
    refine va_get (D := (dC, dI)) (ci := 0) (v := .ref (ad 8)) (C := "StabilitySums") (T := TB_S) (N := 10) hx hb hts ui_S hown hK hP 0 rfl rfl 7 (by decide) (hts _ uw_263) (fun _ h9 => h9) rfl de_S_work_216 ?_
    refine cl_Vv (As := [.ref (ad 23), .long (t.2.2.1 2), .ref (ad 8)]) (rest := []) ⟨hx, hb, hml, hown, hts⟩ (mt_B_read14 l dC dI ad T t (t.2.2.1 2) (show t.2.2.2 2 ≤ 12 from by omega)) (cwV 3 hts (uw_V uw_380 uw_381 uw_382 uw_30 uw_383) rfl rfl rfl (by decide +kernel) ⟨Nat.le_of_ble_eq_true rfl, Nat.le_of_ble_eq_true rfl⟩) (va_recv hK hP (ci := 3) (q0 := 3) rfl rfl) rfl hl.1 rfl (Nat.le_of_ble_eq_true rfl) de_S_work_219 ⟨Nat.zero_le _, Nat.zero_le _⟩ hK hN hP hD hS hA (fun _ H locs hw_20 hP hD hS => ?_)
    obtain ⟨t_21, et_21⟩ : ∃ z, z = x_read 14 (t.2.2.1 2) t := ⟨_, rfl⟩
    have hP : va_P (dC, dI) CLS (wS ad T t_21) H := by rw [et_21]; exact hP
    have hD : va_D A (wS ad T t_21) := by rw [et_21]; exact hD
    obtain ⟨_, _, _, _, _, _⟩ : N6p t_21 t := by rw [et_21]; exact nsix (x_read_N _ _ _)
    refine lv_goto (tgt := 272) hx hb de_S_work_222 (by decide) ?_
    have hfin : t_21 = x_work a0 t := by
      first | (subst_vars; rfl) | (subst_vars; simp only [x_work, c_1_6, ↓reduceIte])
    rw [hfin] at hP hD
    subst hQ
    exact W.vret hx hb hr (fun t9 ht hW => ⟨⟨(), rfl, trivial, by rw [ht]; exact hP, va_K.moved hW.alike hK, hD⟩, hS.F ht⟩) hS.2.2 de_S_work_272
  by_cases c_1_7 : a0 = 7
  · skip
    refine lv_tableIn (tgt := 225) hx hb de_S_work_9 (by rw [c_1_7]; decide) (by rw [c_1_7]; decide) (by rw [c_1_7]; rfl) (by decide) ?_
    refine lv_aload_n hx hb de_S_work_225 rfl (lv_at hl 1 rfl) ?_
    refine va_get (D := (dC, dI)) (ci := 0) (v := .ref (ad 8)) (C := "StabilitySums") (T := TB_S) (N := 10) hx hb hts ui_S hown hK hP 0 rfl rfl 7 (by decide) (hts _ uw_263) (fun _ h9 => h9) rfl de_S_work_226 ?_
    refine lv_ldc2 (v := 2) hx hb hown (hts _ uw_363) de_S_work_229 ?_
    refine lv_aload_n hx hb de_S_work_232 rfl (lv_at hl 1 rfl) ?_
    refine va_get (D := (dC, dI)) (ci := 0) (v := .ref (ad 6)) (C := "StabilitySums") (T := TB_S) (N := 10) hx hb hts ui_S hown hK hP 0 rfl rfl 5 (by decide) (hts _ uw_261) (fun _ h9 => h9) rfl de_S_work_233 ?_
    refine va_get (D := (dC, dI)) (ci := 6) (v := .long (t.2.2.1 3)) (C := "StabilitySums$Sums") (T := TB_U) (N := 5) hx hb hts ui_U hown hK hP 6 rfl rfl 1 (by decide) (hts _ uw_200) (fun _ h9 => h9) rfl de_S_work_236 ?_
    refine lv_lmul hx hb de_S_work_239 ?_
    refine lv_topl (fun v_22 ev_22 => ?_)
    have ev_22 : v_22 = 2 * (t.2.2.1 3) := ev_22
    refine lv_lload_n hx hb de_S_work_240 rfl (lv_at hl 0 rfl) ?_
    refine lv_aload_n hx hb de_S_work_241 rfl (lv_at hl 1 rfl) ?_
    refine va_get (D := (dC, dI)) (ci := 0) (v := .long (t.2.2.1 0)) (C := "StabilitySums") (T := TB_S) (N := 10) hx hb hts ui_S hown hK hP 0 rfl rfl 8 (by decide) (hts _ uw_264) (fun _ h9 => h9) rfl de_S_work_242 ?_
    refine lv_aload_n hx hb de_S_work_245 rfl (lv_at hl 1 rfl) ?_
    refine va_get (D := (dC, dI)) (ci := 0) (v := .long (t.2.2.1 1)) (C := "StabilitySums") (T := TB_S) (N := 10) hx hb hts ui_S hown hK hP 0 rfl rfl 9 (by decide) (hts _ uw_265) (fun _ h9 => h9) rfl de_S_work_246 ?_
    refine lv_ladd hx hb de_S_work_249 ?_
    refine lv_topl (fun v_23 ev_23 => ?_)
    have ev_23 : v_23 = (t.2.2.1 0) + (t.2.2.1 1) := ev_23
    refine lv_lmul hx hb de_S_work_250 ?_
    refine lv_topl (fun v_24 ev_24 => ?_)
    have ev_24 : v_24 = (t.2.2.1 2) * v_23 := ev_24
    refine lv_lsub hx hb de_S_work_251 ?_
    refine lv_topl (fun v_25 ev_25 => ?_)
    have ev_25 : v_25 = v_22 - v_24 := ev_25
    refine lv_ldc2 (v := 2) hx hb hown (hts _ uw_363) de_S_work_252 ?_
    refine lv_lload_n hx hb de_S_work_255 rfl (lv_at hl 0 rfl) ?_
    refine lv_lmul hx hb de_S_work_256 ?_
    refine lv_topl (fun v_26 ev_26 => ?_)
    have ev_26 : v_26 = 2 * (t.2.2.1 2) := ev_26
    refine cl_Vv (As := [.long v_25, .long v_26]) (rest := []) ⟨hx, hb, hml, hown, hts⟩ (mt_F_put l dC dI ad T t v_25 v_26) (cwV 2 hts (uw_V uw_376 uw_377 uw_378 uw_35 uw_379) rfl rfl rfl (by decide +kernel) ⟨Nat.le_of_ble_eq_true rfl, Nat.le_of_ble_eq_true rfl⟩) (va_recv hK hP (ci := 8) (q0 := 8) rfl rfl) rfl hl.1 rfl (Nat.le_of_ble_eq_true rfl) de_S_work_257 ⟨Nat.zero_le _, Nat.zero_le _⟩ hK hN hP hD hS hA (fun _ H locs hw_27 hP hD hS => ?_)
    obtain ⟨t_28, et_28⟩ : ∃ z, z = x_put v_25 v_26 t := ⟨_, rfl⟩
    have hP : va_P (dC, dI) CLS (wS ad T t_28) H := by rw [et_28]; exact hP
    have hD : va_D A (wS ad T t_28) := by rw [et_28]; exact hD
    obtain ⟨_, _, _, _, _, _⟩ : N6p t_28 t := by rw [et_28]; exact nsix (x_put_N _ _ _)
    refine lv_goto (tgt := 272) hx hb de_S_work_260 (by decide) ?_
    have hfin : t_28 = x_work a0 t := by
      first | (subst_vars; rfl) | (subst_vars; simp only [x_work, c_1_7, ↓reduceIte])
    rw [hfin] at hP hD
    subst hQ
    exact W.vret hx hb hr (fun t9 ht hW => ⟨⟨(), rfl, trivial, by rw [ht]; exact hP, va_K.moved hW.alike hK, hD⟩, hS.F ht⟩) hS.2.2 de_S_work_272
  have c_1_o : a0.toInt < 1 ∨ 7 < a0.toInt := sw_out1_7 c_1_1 c_1_2 c_1_3 c_1_4 c_1_5 c_1_6 c_1_7
  refine lv_tableOut (tgt := 263) hx hb de_S_work_9 c_1_o (by decide) ?_
  refine lv_aload_n hx hb de_S_work_263 rfl (lv_at hl 1 rfl) ?_
  refine va_get (D := (dC, dI)) (ci := 0) (v := .ref (ad 8)) (C := "StabilitySums") (T := TB_S) (N := 10) hx hb hts ui_S hown hK hP 0 rfl rfl 7 (by decide) (hts _ uw_263) (fun _ h9 => h9) rfl de_S_work_264 ?_
  refine lv_lload_n hx hb de_S_work_267 rfl (lv_at hl 0 rfl) ?_
  refine lv_lconst (v := 1) hx hb de_S_work_268 (by decide) ?_
  refine cl_Vv (As := [.long (t.2.2.1 2), .long 1]) (rest := []) ⟨hx, hb, hml, hown, hts⟩ (mt_F_put l dC dI ad T t (t.2.2.1 2) 1) (cwV 2 hts (uw_V uw_376 uw_377 uw_378 uw_35 uw_379) rfl rfl rfl (by decide +kernel) ⟨Nat.le_of_ble_eq_true rfl, Nat.le_of_ble_eq_true rfl⟩) (va_recv hK hP (ci := 8) (q0 := 8) rfl rfl) rfl hl.1 rfl (Nat.le_of_ble_eq_true rfl) de_S_work_269 ⟨Nat.zero_le _, Nat.zero_le _⟩ hK hN hP hD hS hA (fun _ H locs hw_29 hP hD hS => ?_)
  obtain ⟨t_30, et_30⟩ : ∃ z, z = x_put (t.2.2.1 2) 1 t := ⟨_, rfl⟩
  have hP : va_P (dC, dI) CLS (wS ad T t_30) H := by rw [et_30]; exact hP
  have hD : va_D A (wS ad T t_30) := by rw [et_30]; exact hD
  obtain ⟨_, _, _, _, _, _⟩ : N6p t_30 t := by rw [et_30]; exact nsix (x_put_N _ _ _)
  have hfin : t_30 = x_work a0 t := by
    first | (subst_vars; rfl) | (subst_vars; simp only [x_work, c_1_1, c_1_2, c_1_3, c_1_4, c_1_5, c_1_6, c_1_7, ↓reduceIte])
  rw [hfin] at hP hD
  subst hQ
  exact W.vret hx hb hr (fun t9 ht hW => ⟨⟨(), rfl, trivial, by rw [ht]; exact hP, va_K.moved hW.alike hK, hD⟩, hS.F ht⟩) hS.2.2 de_S_work_272
set_option maxHeartbeats 4000000 in
set_option maxRecDepth 100000 in
theorem mt_S_shearAt (l : Launch) (dC : Nat → ClassId) (dI : Nat → Nat → Nat) (ad : Nat → Nat) (T : Nat → ClassId) (t : St) (i : Nat) (hi0 : i ≤ 10) (sz : Nat) : Met l yn_S_shearAt (.code yn_S_shearAt cd_S_shearAt 8 (some .long) :: UW) ({ frames := 2, cells := 0, slots := 0, locals := 48 } : Room) (va_Pc [.ref (ad 0), .int (nI i)] (Pw (dC, dI) CLS (TY T) (wS ad T t) sz)) (va_Ql (fun (r : Int64) (_ : Unit) => r = x_shear t i) (Bw (dC, dI) CLS (TY T) (fun _ : Unit => (wS ad T t)) (va_A (wS ad T t) sz)) (va_A (wS ad T t) sz)) 0 0 (va_A (wS ad T t) sz) := by
  refine Met.ofW (cc := cd_S_shearAt) (maxL := 8) (ret := (some .long)) (by decide) rfl ?_
  intro p e s m args below meth c s₁ B hml hv
  obtain ⟨rfl, hsz, hP, hK, hD0, hN⟩ := hv
  have hx := B.exec
  have hb := B.bytes
  have hr := B.returns
  have hts : ∀ w ∈ UW, w.before _ s = true := fun w h => atoms_spec (ws := .code yn_S_shearAt cd_S_shearAt 8 (some .long) :: UW) B.pre w (List.mem_cons_of_mem _ h)
  have hown : s.vm.findClass "StabilitySums" = some m.cls := findClass_of_methodNamed B.named
  have hlocks := B.notSynchronized
  subst hsz
  have hD := hD0.self (sz := s.heap.size)
  generalize hAe : va_A (wS ad T t) s.heap.size = A at hD ⊢
  have hA : ∀ q : Nat, s.heap.size ≤ q → A q := fun q h => by rw [← hAe]; exact Or.inr h
  have hS : va_S A s.heap s.heap [] := va_S.rf
  have hl := lv_entry ([.ref (ad 0), .int (nI i)]) (n := 8) (Nat.le_of_ble_eq_true rfl)
  rw [lg_entry_eq]
  generalize (lg_sl ([.ref (ad 0), .int (nI i)]) ++ List.replicate (8 - (lg_sl ([.ref (ad 0), .int (nI i)])).length) Slot.unset).toArray = ls at hl ⊢
  have hl : lv_has ls 8 [(0, .ref (ad 0)), (1, .int (nI i))] := hl
  generalize hQ : MQ below _ _ s 0 0 A = Q
  refine lv_aload_n hx hb de_S_shearAt_0 rfl (lv_at hl 0 rfl) ?_
  refine va_get (D := (dC, dI)) (ci := 0) (v := .ref (ad 7)) (C := "StabilitySums") (T := TB_S) (N := 10) hx hb hts ui_S hown hK hP 0 rfl rfl 6 (by decide) (hts _ uw_262) (fun _ h9 => h9) rfl de_S_shearAt_1 ?_
  refine va_get (D := (dC, dI)) (ci := 7) (v := .ref (ad 30)) (C := "StabilitySums$Cuts") (T := TB_C) (N := 4) hx hb hts ui_C hown hK hP 7 rfl rfl 0 (by decide) (hts _ uw_225) (fun _ h9 => h9) rfl de_S_shearAt_4 ?_
  refine lv_iload_n hx hb de_S_shearAt_7 rfl (lv_at hl 1 rfl) ?_
  refine rw_lald (f := t.1 18) (j := i) hx hb hK hP 30 0 rfl rfl (by omega) (by decide) de_S_shearAt_8 ?_
  refine lv_lstore_n (lv' := [(2, .long (t.1 18 i)), (0, .ref (ad 0)), (1, .int (nI i))]) hx hb de_S_shearAt_9 rfl hl (by decide) rfl (fun ls hl => ?_)
  refine lv_aload_n hx hb de_S_shearAt_10 rfl (lv_at hl 1 rfl) ?_
  refine va_get (D := (dC, dI)) (ci := 0) (v := .ref (ad 7)) (C := "StabilitySums") (T := TB_S) (N := 10) hx hb hts ui_S hown hK hP 0 rfl rfl 6 (by decide) (hts _ uw_262) (fun _ h9 => h9) rfl de_S_shearAt_11 ?_
  refine va_get (D := (dC, dI)) (ci := 7) (v := .ref (ad 31)) (C := "StabilitySums$Cuts") (T := TB_C) (N := 4) hx hb hts ui_C hown hK hP 7 rfl rfl 1 (by decide) (hts _ uw_227) (fun _ h9 => h9) rfl de_S_shearAt_14 ?_
  refine lv_iload_n hx hb de_S_shearAt_17 rfl (lv_at hl 2 rfl) ?_
  refine rw_lald (f := t.1 19) (j := i) hx hb hK hP 31 0 rfl rfl (by omega) (by decide) de_S_shearAt_18 ?_
  refine lv_lstore (lv' := [(4, .long (t.1 19 i)), (2, .long (t.1 18 i)), (0, .ref (ad 0)), (1, .int (nI i))]) hx hb de_S_shearAt_19 hl (by decide) rfl (fun ls hl => ?_)
  refine lv_lload_n hx hb de_S_shearAt_21 rfl (lv_at hl 1 rfl) ?_
  refine lv_aload_n hx hb de_S_shearAt_22 rfl (lv_at hl 2 rfl) ?_
  refine va_get (D := (dC, dI)) (ci := 0) (v := .long (t.2.2.1 0)) (C := "StabilitySums") (T := TB_S) (N := 10) hx hb hts ui_S hown hK hP 0 rfl rfl 8 (by decide) (hts _ uw_264) (fun _ h9 => h9) rfl de_S_shearAt_23 ?_
  refine rw_gt (tgt := 33) hx hb de_S_shearAt_26 de_S_shearAt_27 (by decide) (fun c_1 => ?_) (fun c_1 => ?_)
  · skip
    refine lv_lload_n hx hb de_S_shearAt_33 rfl (lv_at hl 1 rfl) ?_
    refine lv_aload_n hx hb de_S_shearAt_34 rfl (lv_at hl 2 rfl) ?_
    refine va_get (D := (dC, dI)) (ci := 0) (v := .long (t.2.2.1 1)) (C := "StabilitySums") (T := TB_S) (N := 10) hx hb hts ui_S hown hK hP 0 rfl rfl 9 (by decide) (hts _ uw_265) (fun _ h9 => h9) rfl de_S_shearAt_35 ?_
    refine rw_lt (tgt := 53) hx hb de_S_shearAt_38 de_S_shearAt_39 (by decide) (fun c_2 => ?_) (fun c_2 => ?_)
    · skip
      refine lv_aload_n hx hb de_S_shearAt_53 rfl (lv_at hl 2 rfl) ?_
      refine va_get (D := (dC, dI)) (ci := 0) (v := .long (t.2.2.1 1)) (C := "StabilitySums") (T := TB_S) (N := 10) hx hb hts ui_S hown hK hP 0 rfl rfl 9 (by decide) (hts _ uw_265) (fun _ h9 => h9) rfl de_S_shearAt_54 ?_
      refine lv_aload_n hx hb de_S_shearAt_57 rfl (lv_at hl 2 rfl) ?_
      refine va_get (D := (dC, dI)) (ci := 0) (v := .long (t.2.2.1 0)) (C := "StabilitySums") (T := TB_S) (N := 10) hx hb hts ui_S hown hK hP 0 rfl rfl 8 (by decide) (hts _ uw_264) (fun _ h9 => h9) rfl de_S_shearAt_58 ?_
      refine lv_lsub hx hb de_S_shearAt_61 ?_
      refine lv_topl (fun v_3 ev_3 => ?_)
      have ev_3 : v_3 = (t.2.2.1 1) - (t.2.2.1 0) := ev_3
      refine lv_lstore (lv' := [(6, .long v_3), (4, .long (t.1 19 i)), (2, .long (t.1 18 i)), (0, .ref (ad 0)), (1, .int (nI i))]) hx hb de_S_shearAt_62 hl (by decide) rfl (fun ls hl => ?_)
      refine lv_lload hx hb de_S_shearAt_64 (lv_at hl 1 rfl) ?_
      refine lv_lload hx hb de_S_shearAt_66 (lv_at hl 0 rfl) ?_
      refine lv_lmul hx hb de_S_shearAt_68 ?_
      refine lv_topl (fun v_4 ev_4 => ?_)
      have ev_4 : v_4 = (t.1 19 i) * v_3 := ev_4
      refine lv_aload_n hx hb de_S_shearAt_69 rfl (lv_at hl 3 rfl) ?_
      refine va_get (D := (dC, dI)) (ci := 0) (v := .ref (ad 6)) (C := "StabilitySums") (T := TB_S) (N := 10) hx hb hts ui_S hown hK hP 0 rfl rfl 5 (by decide) (hts _ uw_261) (fun _ h9 => h9) rfl de_S_shearAt_70 ?_
      refine va_get (D := (dC, dI)) (ci := 6) (v := .long (t.2.2.1 2)) (C := "StabilitySums$Sums") (T := TB_U) (N := 5) hx hb hts ui_U hown hK hP 6 rfl rfl 0 (by decide) (hts _ uw_198) (fun _ h9 => h9) rfl de_S_shearAt_73 ?_
      refine lv_lload_n hx hb de_S_shearAt_76 rfl (lv_at hl 2 rfl) ?_
      refine lv_aload_n hx hb de_S_shearAt_77 rfl (lv_at hl 3 rfl) ?_
      refine va_get (D := (dC, dI)) (ci := 0) (v := .long (t.2.2.1 0)) (C := "StabilitySums") (T := TB_S) (N := 10) hx hb hts ui_S hown hK hP 0 rfl rfl 8 (by decide) (hts _ uw_264) (fun _ h9 => h9) rfl de_S_shearAt_78 ?_
      refine lv_lsub hx hb de_S_shearAt_81 ?_
      refine lv_topl (fun v_5 ev_5 => ?_)
      have ev_5 : v_5 = (t.1 18 i) - (t.2.2.1 0) := ev_5
      refine lv_lmul hx hb de_S_shearAt_82 ?_
      refine lv_topl (fun v_6 ev_6 => ?_)
      have ev_6 : v_6 = (t.2.2.1 2) * v_5 := ev_6
      refine lv_lsub hx hb de_S_shearAt_83 ?_
      refine lv_topl (fun v_7 ev_7 => ?_)
      have ev_7 : v_7 = v_4 - v_6 := ev_7
      refine lv_lload hx hb de_S_shearAt_84 (lv_at hl 0 rfl) ?_
      refine cl_Sl (As := [.long v_7, .long v_3]) (rest := []) ⟨hx, hb, hml, hown, hts⟩ (mt_S_divideDown l dC dI ad T t v_7 v_3) (va_cwS 2 hts (uw_S uw_353 uw_354 uw_27 uw_355) rfl rfl rfl (by decide +kernel) ⟨Nat.le_of_ble_eq_true rfl, Nat.le_of_ble_eq_true rfl⟩) rfl hl.1 rfl (Nat.le_of_ble_eq_true rfl) de_S_shearAt_86 ⟨Nat.zero_le _, Nat.zero_le _⟩ hK hN hP hD hS hA (fun r_8 _ H locs hw_8 hP hD hS => ?_)
      have hw_8 : r_8 = x_dd v_7 v_3 := hw_8
      subst hQ
      have hpost : r_8 = x_shear t i := by
        subst_vars; unfold x_shear; simp only [Int64.not_lt] at *; first | (rw [if_pos c_2]; done) | (rw [if_neg (Int64.not_le.mpr ‹_›), if_pos c_2]; done) | (rw [if_neg (Int64.not_le.mpr ‹_›), if_neg (Int64.not_le.mpr ‹_›)])
      exact W.lret (v := r_8) hx hb hr (fun t9 ht hW => ⟨⟨r_8, (), rfl, hpost, by rw [ht]; exact hP, va_K.moved hW.alike hK, hD⟩, hS.F ht⟩) hS.2.2 de_S_shearAt_89
    · skip
      refine lv_lload hx hb de_S_shearAt_42 (lv_at hl 0 rfl) ?_
      refine lv_aload_n hx hb de_S_shearAt_44 rfl (lv_at hl 2 rfl) ?_
      refine va_get (D := (dC, dI)) (ci := 0) (v := .ref (ad 6)) (C := "StabilitySums") (T := TB_S) (N := 10) hx hb hts ui_S hown hK hP 0 rfl rfl 5 (by decide) (hts _ uw_261) (fun _ h9 => h9) rfl de_S_shearAt_45 ?_
      refine va_get (D := (dC, dI)) (ci := 6) (v := .long (t.2.2.1 2)) (C := "StabilitySums$Sums") (T := TB_U) (N := 5) hx hb hts ui_U hown hK hP 6 rfl rfl 0 (by decide) (hts _ uw_198) (fun _ h9 => h9) rfl de_S_shearAt_48 ?_
      refine lv_lsub hx hb de_S_shearAt_51 ?_
      refine lv_topl (fun v_9 ev_9 => ?_)
      have ev_9 : v_9 = (t.1 19 i) - (t.2.2.1 2) := ev_9
      subst hQ
      have hpost : v_9 = x_shear t i := by
        subst_vars; unfold x_shear; simp only [Int64.not_lt] at *; first | (rw [if_pos c_2]; done) | (rw [if_neg (Int64.not_le.mpr ‹_›), if_pos c_2]; done) | (rw [if_neg (Int64.not_le.mpr ‹_›), if_neg (Int64.not_le.mpr ‹_›)])
      exact W.lret (v := v_9) hx hb hr (fun t9 ht hW => ⟨⟨v_9, (), rfl, hpost, by rw [ht]; exact hP, va_K.moved hW.alike hK, hD⟩, hS.F ht⟩) hS.2.2 de_S_shearAt_52
  · skip
    refine lv_lload hx hb de_S_shearAt_30 (lv_at hl 0 rfl) ?_
    subst hQ
    have hpost : (t.1 19 i) = x_shear t i := by
      subst_vars; unfold x_shear; simp only [Int64.not_lt] at *; first | (rw [if_pos c_1]; done) | (rw [if_neg (Int64.not_le.mpr ‹_›), if_pos c_1]; done) | (rw [if_neg (Int64.not_le.mpr ‹_›), if_neg (Int64.not_le.mpr ‹_›)])
    exact W.lret (v := (t.1 19 i)) hx hb hr (fun t9 ht hW => ⟨⟨(t.1 19 i), (), rfl, hpost, by rw [ht]; exact hP, va_K.moved hW.alike hK, hD⟩, hS.F ht⟩) hS.2.2 de_S_shearAt_32
set_option maxHeartbeats 4000000 in
set_option maxRecDepth 100000 in
theorem mt_S_bendingAt (l : Launch) (dC : Nat → ClassId) (dI : Nat → Nat → Nat) (ad : Nat → Nat) (T : Nat → ClassId) (t : St) (i : Nat) (hi0 : i ≤ 10) (sz : Nat) : Met l yn_S_bendingAt (.code yn_S_bendingAt cd_S_bendingAt 10 (some .long) :: UW) ({ frames := 2, cells := 0, slots := 0, locals := 48 } : Room) (va_Pc [.ref (ad 0), .int (nI i)] (Pw (dC, dI) CLS (TY T) (wS ad T t) sz)) (va_Ql (fun (r : Int64) (_ : Unit) => r = x_bend t i) (Bw (dC, dI) CLS (TY T) (fun _ : Unit => (wS ad T t)) (va_A (wS ad T t) sz)) (va_A (wS ad T t) sz)) 0 0 (va_A (wS ad T t) sz) := by
  refine Met.ofW (cc := cd_S_bendingAt) (maxL := 10) (ret := (some .long)) (by decide) rfl ?_
  intro p e s m args below meth c s₁ B hml hv
  obtain ⟨rfl, hsz, hP, hK, hD0, hN⟩ := hv
  have hx := B.exec
  have hb := B.bytes
  have hr := B.returns
  have hts : ∀ w ∈ UW, w.before _ s = true := fun w h => atoms_spec (ws := .code yn_S_bendingAt cd_S_bendingAt 10 (some .long) :: UW) B.pre w (List.mem_cons_of_mem _ h)
  have hown : s.vm.findClass "StabilitySums" = some m.cls := findClass_of_methodNamed B.named
  have hlocks := B.notSynchronized
  subst hsz
  have hD := hD0.self (sz := s.heap.size)
  generalize hAe : va_A (wS ad T t) s.heap.size = A at hD ⊢
  have hA : ∀ q : Nat, s.heap.size ≤ q → A q := fun q h => by rw [← hAe]; exact Or.inr h
  have hS : va_S A s.heap s.heap [] := va_S.rf
  have hl := lv_entry ([.ref (ad 0), .int (nI i)]) (n := 10) (Nat.le_of_ble_eq_true rfl)
  rw [lg_entry_eq]
  generalize (lg_sl ([.ref (ad 0), .int (nI i)]) ++ List.replicate (10 - (lg_sl ([.ref (ad 0), .int (nI i)])).length) Slot.unset).toArray = ls at hl ⊢
  have hl : lv_has ls 10 [(0, .ref (ad 0)), (1, .int (nI i))] := hl
  generalize hQ : MQ below _ _ s 0 0 A = Q
  refine lv_aload_n hx hb de_S_bendingAt_0 rfl (lv_at hl 0 rfl) ?_
  refine va_get (D := (dC, dI)) (ci := 0) (v := .ref (ad 7)) (C := "StabilitySums") (T := TB_S) (N := 10) hx hb hts ui_S hown hK hP 0 rfl rfl 6 (by decide) (hts _ uw_262) (fun _ h9 => h9) rfl de_S_bendingAt_1 ?_
  refine va_get (D := (dC, dI)) (ci := 7) (v := .ref (ad 30)) (C := "StabilitySums$Cuts") (T := TB_C) (N := 4) hx hb hts ui_C hown hK hP 7 rfl rfl 0 (by decide) (hts _ uw_225) (fun _ h9 => h9) rfl de_S_bendingAt_4 ?_
  refine lv_iload_n hx hb de_S_bendingAt_7 rfl (lv_at hl 1 rfl) ?_
  refine rw_lald (f := t.1 18) (j := i) hx hb hK hP 30 0 rfl rfl (by omega) (by decide) de_S_bendingAt_8 ?_
  refine lv_lstore_n (lv' := [(2, .long (t.1 18 i)), (0, .ref (ad 0)), (1, .int (nI i))]) hx hb de_S_bendingAt_9 rfl hl (by decide) rfl (fun ls hl => ?_)
  refine lv_aload_n hx hb de_S_bendingAt_10 rfl (lv_at hl 1 rfl) ?_
  refine va_get (D := (dC, dI)) (ci := 0) (v := .ref (ad 7)) (C := "StabilitySums") (T := TB_S) (N := 10) hx hb hts ui_S hown hK hP 0 rfl rfl 6 (by decide) (hts _ uw_262) (fun _ h9 => h9) rfl de_S_bendingAt_11 ?_
  refine va_get (D := (dC, dI)) (ci := 7) (v := .ref (ad 32)) (C := "StabilitySums$Cuts") (T := TB_C) (N := 4) hx hb hts ui_C hown hK hP 7 rfl rfl 2 (by decide) (hts _ uw_229) (fun _ h9 => h9) rfl de_S_bendingAt_14 ?_
  refine lv_iload_n hx hb de_S_bendingAt_17 rfl (lv_at hl 2 rfl) ?_
  refine rw_lald (f := t.1 20) (j := i) hx hb hK hP 32 0 rfl rfl (by omega) (by decide) de_S_bendingAt_18 ?_
  refine lv_lstore (lv' := [(4, .long (t.1 20 i)), (2, .long (t.1 18 i)), (0, .ref (ad 0)), (1, .int (nI i))]) hx hb de_S_bendingAt_19 hl (by decide) rfl (fun ls hl => ?_)
  refine lv_lload_n hx hb de_S_bendingAt_21 rfl (lv_at hl 1 rfl) ?_
  refine lv_aload_n hx hb de_S_bendingAt_22 rfl (lv_at hl 2 rfl) ?_
  refine va_get (D := (dC, dI)) (ci := 0) (v := .long (t.2.2.1 0)) (C := "StabilitySums") (T := TB_S) (N := 10) hx hb hts ui_S hown hK hP 0 rfl rfl 8 (by decide) (hts _ uw_264) (fun _ h9 => h9) rfl de_S_bendingAt_23 ?_
  refine rw_gt (tgt := 33) hx hb de_S_bendingAt_26 de_S_bendingAt_27 (by decide) (fun c_1 => ?_) (fun c_1 => ?_)
  · skip
    refine lv_lload_n hx hb de_S_bendingAt_33 rfl (lv_at hl 1 rfl) ?_
    refine lv_aload_n hx hb de_S_bendingAt_34 rfl (lv_at hl 2 rfl) ?_
    refine va_get (D := (dC, dI)) (ci := 0) (v := .long (t.2.2.1 1)) (C := "StabilitySums") (T := TB_S) (N := 10) hx hb hts ui_S hown hK hP 0 rfl rfl 9 (by decide) (hts _ uw_265) (fun _ h9 => h9) rfl de_S_bendingAt_35 ?_
    refine rw_lt (tgt := 79) hx hb de_S_bendingAt_38 de_S_bendingAt_39 (by decide) (fun c_2 => ?_) (fun c_2 => ?_)
    · skip
      refine lv_lload_n hx hb de_S_bendingAt_79 rfl (lv_at hl 1 rfl) ?_
      refine lv_aload_n hx hb de_S_bendingAt_80 rfl (lv_at hl 2 rfl) ?_
      refine va_get (D := (dC, dI)) (ci := 0) (v := .long (t.2.2.1 0)) (C := "StabilitySums") (T := TB_S) (N := 10) hx hb hts ui_S hown hK hP 0 rfl rfl 8 (by decide) (hts _ uw_264) (fun _ h9 => h9) rfl de_S_bendingAt_81 ?_
      refine lv_lsub hx hb de_S_bendingAt_84 ?_
      refine lv_topl (fun v_3 ev_3 => ?_)
      have ev_3 : v_3 = (t.1 18 i) - (t.2.2.1 0) := ev_3
      refine lv_lstore (lv' := [(6, .long v_3), (4, .long (t.1 20 i)), (2, .long (t.1 18 i)), (0, .ref (ad 0)), (1, .int (nI i))]) hx hb de_S_bendingAt_85 hl (by decide) rfl (fun ls hl => ?_)
      refine lv_ldc2 (v := 2) hx hb hown (hts _ uw_363) de_S_bendingAt_87 ?_
      refine lv_aload_n hx hb de_S_bendingAt_90 rfl (lv_at hl 3 rfl) ?_
      refine va_get (D := (dC, dI)) (ci := 0) (v := .long (t.2.2.1 1)) (C := "StabilitySums") (T := TB_S) (N := 10) hx hb hts ui_S hown hK hP 0 rfl rfl 9 (by decide) (hts _ uw_265) (fun _ h9 => h9) rfl de_S_bendingAt_91 ?_
      refine lv_aload_n hx hb de_S_bendingAt_94 rfl (lv_at hl 3 rfl) ?_
      refine va_get (D := (dC, dI)) (ci := 0) (v := .long (t.2.2.1 0)) (C := "StabilitySums") (T := TB_S) (N := 10) hx hb hts ui_S hown hK hP 0 rfl rfl 8 (by decide) (hts _ uw_264) (fun _ h9 => h9) rfl de_S_bendingAt_95 ?_
      refine lv_lsub hx hb de_S_bendingAt_98 ?_
      refine lv_topl (fun v_4 ev_4 => ?_)
      have ev_4 : v_4 = (t.2.2.1 1) - (t.2.2.1 0) := ev_4
      refine lv_lmul hx hb de_S_bendingAt_99 ?_
      refine lv_topl (fun v_5 ev_5 => ?_)
      have ev_5 : v_5 = 2 * v_4 := ev_5
      refine lv_lstore (lv' := [(8, .long v_5), (6, .long v_3), (4, .long (t.1 20 i)), (2, .long (t.1 18 i)), (0, .ref (ad 0)), (1, .int (nI i))]) hx hb de_S_bendingAt_100 hl (by decide) rfl (fun ls hl => ?_)
      refine lv_lload hx hb de_S_bendingAt_102 (lv_at hl 2 rfl) ?_
      refine lv_lload hx hb de_S_bendingAt_104 (lv_at hl 0 rfl) ?_
      refine lv_lmul hx hb de_S_bendingAt_106 ?_
      refine lv_topl (fun v_6 ev_6 => ?_)
      have ev_6 : v_6 = (t.1 20 i) * v_5 := ev_6
      refine lv_aload_n hx hb de_S_bendingAt_107 rfl (lv_at hl 4 rfl) ?_
      refine va_get (D := (dC, dI)) (ci := 0) (v := .ref (ad 6)) (C := "StabilitySums") (T := TB_S) (N := 10) hx hb hts ui_S hown hK hP 0 rfl rfl 5 (by decide) (hts _ uw_261) (fun _ h9 => h9) rfl de_S_bendingAt_108 ?_
      refine va_get (D := (dC, dI)) (ci := 6) (v := .long (t.2.2.1 2)) (C := "StabilitySums$Sums") (T := TB_U) (N := 5) hx hb hts ui_U hown hK hP 6 rfl rfl 0 (by decide) (hts _ uw_198) (fun _ h9 => h9) rfl de_S_bendingAt_111 ?_
      refine lv_lload hx hb de_S_bendingAt_114 (lv_at hl 1 rfl) ?_
      refine lv_lmul hx hb de_S_bendingAt_116 ?_
      refine lv_topl (fun v_7 ev_7 => ?_)
      have ev_7 : v_7 = (t.2.2.1 2) * v_3 := ev_7
      refine lv_lload hx hb de_S_bendingAt_117 (lv_at hl 1 rfl) ?_
      refine lv_lmul hx hb de_S_bendingAt_119 ?_
      refine lv_topl (fun v_8 ev_8 => ?_)
      have ev_8 : v_8 = v_7 * v_3 := ev_8
      refine lv_lsub hx hb de_S_bendingAt_120 ?_
      refine lv_topl (fun v_9 ev_9 => ?_)
      have ev_9 : v_9 = v_6 - v_8 := ev_9
      refine lv_lload hx hb de_S_bendingAt_121 (lv_at hl 0 rfl) ?_
      refine cl_Sl (As := [.long v_9, .long v_5]) (rest := []) ⟨hx, hb, hml, hown, hts⟩ (mt_S_divideDown l dC dI ad T t v_9 v_5) (va_cwS 2 hts (uw_S uw_353 uw_354 uw_27 uw_355) rfl rfl rfl (by decide +kernel) ⟨Nat.le_of_ble_eq_true rfl, Nat.le_of_ble_eq_true rfl⟩) rfl hl.1 rfl (Nat.le_of_ble_eq_true rfl) de_S_bendingAt_123 ⟨Nat.zero_le _, Nat.zero_le _⟩ hK hN hP hD hS hA (fun r_10 _ H locs hw_10 hP hD hS => ?_)
      have hw_10 : r_10 = x_dd v_9 v_5 := hw_10
      subst hQ
      have hpost : r_10 = x_bend t i := by
        subst_vars; unfold x_bend; simp only [Int64.not_lt] at *; first | (rw [if_pos c_2]; done) | (rw [if_neg (Int64.not_le.mpr ‹_›), if_pos c_2]; done) | (rw [if_neg (Int64.not_le.mpr ‹_›), if_neg (Int64.not_le.mpr ‹_›)])
      exact W.lret (v := r_10) hx hb hr (fun t9 ht hW => ⟨⟨r_10, (), rfl, hpost, by rw [ht]; exact hP, va_K.moved hW.alike hK, hD⟩, hS.F ht⟩) hS.2.2 de_S_bendingAt_126
    · skip
      refine lv_ldc2 (v := 2) hx hb hown (hts _ uw_363) de_S_bendingAt_42 ?_
      refine lv_lload hx hb de_S_bendingAt_45 (lv_at hl 0 rfl) ?_
      refine lv_lmul hx hb de_S_bendingAt_47 ?_
      refine lv_topl (fun v_11 ev_11 => ?_)
      have ev_11 : v_11 = 2 * (t.1 20 i) := ev_11
      refine lv_aload_n hx hb de_S_bendingAt_48 rfl (lv_at hl 2 rfl) ?_
      refine va_get (D := (dC, dI)) (ci := 0) (v := .ref (ad 6)) (C := "StabilitySums") (T := TB_S) (N := 10) hx hb hts ui_S hown hK hP 0 rfl rfl 5 (by decide) (hts _ uw_261) (fun _ h9 => h9) rfl de_S_bendingAt_49 ?_
      refine va_get (D := (dC, dI)) (ci := 6) (v := .long (t.2.2.1 2)) (C := "StabilitySums$Sums") (T := TB_U) (N := 5) hx hb hts ui_U hown hK hP 6 rfl rfl 0 (by decide) (hts _ uw_198) (fun _ h9 => h9) rfl de_S_bendingAt_52 ?_
      refine lv_ldc2 (v := 2) hx hb hown (hts _ uw_363) de_S_bendingAt_55 ?_
      refine lv_lload_n hx hb de_S_bendingAt_58 rfl (lv_at hl 1 rfl) ?_
      refine lv_lmul hx hb de_S_bendingAt_59 ?_
      refine lv_topl (fun v_12 ev_12 => ?_)
      have ev_12 : v_12 = 2 * (t.1 18 i) := ev_12
      refine lv_aload_n hx hb de_S_bendingAt_60 rfl (lv_at hl 2 rfl) ?_
      refine va_get (D := (dC, dI)) (ci := 0) (v := .long (t.2.2.1 0)) (C := "StabilitySums") (T := TB_S) (N := 10) hx hb hts ui_S hown hK hP 0 rfl rfl 8 (by decide) (hts _ uw_264) (fun _ h9 => h9) rfl de_S_bendingAt_61 ?_
      refine lv_lsub hx hb de_S_bendingAt_64 ?_
      refine lv_topl (fun v_13 ev_13 => ?_)
      have ev_13 : v_13 = v_12 - (t.2.2.1 0) := ev_13
      refine lv_aload_n hx hb de_S_bendingAt_65 rfl (lv_at hl 2 rfl) ?_
      refine va_get (D := (dC, dI)) (ci := 0) (v := .long (t.2.2.1 1)) (C := "StabilitySums") (T := TB_S) (N := 10) hx hb hts ui_S hown hK hP 0 rfl rfl 9 (by decide) (hts _ uw_265) (fun _ h9 => h9) rfl de_S_bendingAt_66 ?_
      refine lv_lsub hx hb de_S_bendingAt_69 ?_
      refine lv_topl (fun v_14 ev_14 => ?_)
      have ev_14 : v_14 = v_13 - (t.2.2.1 1) := ev_14
      refine lv_lmul hx hb de_S_bendingAt_70 ?_
      refine lv_topl (fun v_15 ev_15 => ?_)
      have ev_15 : v_15 = (t.2.2.1 2) * v_14 := ev_15
      refine lv_lsub hx hb de_S_bendingAt_71 ?_
      refine lv_topl (fun v_16 ev_16 => ?_)
      have ev_16 : v_16 = v_11 - v_15 := ev_16
      refine lv_ldc2 (v := 2) hx hb hown (hts _ uw_363) de_S_bendingAt_72 ?_
      refine cl_Sl (As := [.long v_16, .long 2]) (rest := []) ⟨hx, hb, hml, hown, hts⟩ (mt_S_divideDown l dC dI ad T t v_16 2) (va_cwS 2 hts (uw_S uw_353 uw_354 uw_27 uw_355) rfl rfl rfl (by decide +kernel) ⟨Nat.le_of_ble_eq_true rfl, Nat.le_of_ble_eq_true rfl⟩) rfl hl.1 rfl (Nat.le_of_ble_eq_true rfl) de_S_bendingAt_75 ⟨Nat.zero_le _, Nat.zero_le _⟩ hK hN hP hD hS hA (fun r_17 _ H locs hw_17 hP hD hS => ?_)
      have hw_17 : r_17 = x_dd v_16 2 := hw_17
      subst hQ
      have hpost : r_17 = x_bend t i := by
        subst_vars; unfold x_bend; simp only [Int64.not_lt] at *; first | (rw [if_pos c_2]; done) | (rw [if_neg (Int64.not_le.mpr ‹_›), if_pos c_2]; done) | (rw [if_neg (Int64.not_le.mpr ‹_›), if_neg (Int64.not_le.mpr ‹_›)])
      exact W.lret (v := r_17) hx hb hr (fun t9 ht hW => ⟨⟨r_17, (), rfl, hpost, by rw [ht]; exact hP, va_K.moved hW.alike hK, hD⟩, hS.F ht⟩) hS.2.2 de_S_bendingAt_78
  · skip
    refine lv_lload hx hb de_S_bendingAt_30 (lv_at hl 0 rfl) ?_
    subst hQ
    have hpost : (t.1 20 i) = x_bend t i := by
      subst_vars; unfold x_bend; simp only [Int64.not_lt] at *; first | (rw [if_pos c_1]; done) | (rw [if_neg (Int64.not_le.mpr ‹_›), if_pos c_1]; done) | (rw [if_neg (Int64.not_le.mpr ‹_›), if_neg (Int64.not_le.mpr ‹_›)])
    exact W.lret (v := (t.1 20 i)) hx hb hr (fun t9 ht hW => ⟨⟨(t.1 20 i), (), rfl, hpost, by rw [ht]; exact hP, va_K.moved hW.alike hK, hD⟩, hS.F ht⟩) hS.2.2 de_S_bendingAt_32
set_option maxHeartbeats 4000000 in
set_option maxRecDepth 100000 in
theorem mt_S_breaks (l : Launch) (dC : Nat → ClassId) (dI : Nat → Nat → Nat) (ad : Nat → Nat) (T : Nat → ClassId) (t : St) (i : Nat) (hI : Iv t) (hi0 : i ≤ 10) (sz : Nat) : Met l yn_S_breaks (.code yn_S_breaks cd_S_breaks 5 (some .boolean) :: UW) ({ frames := 3, cells := 0, slots := 0, locals := 78 } : Room) (va_Pc [.ref (ad 0), .int (nI i)] (Pw (dC, dI) CLS (TY T) (wS ad T t) sz)) (va_Qi (fun (r : Int32) (_ : Unit) => bz r (x_bp i t)) (Bw (dC, dI) CLS (TY T) (fun _ : Unit => (wS ad T (x_bt i t))) (va_A (wS ad T t) sz)) (va_A (wS ad T t) sz)) 0 0 (va_A (wS ad T t) sz) := by
  refine Met.ofW (cc := cd_S_breaks) (maxL := 5) (ret := (some .boolean)) (by decide) rfl ?_
  intro p e s m args below meth c s₁ B hml hv
  obtain ⟨rfl, hsz, hP, hK, hD0, hN⟩ := hv
  have hx := B.exec
  have hb := B.bytes
  have hr := B.returns
  have hts : ∀ w ∈ UW, w.before _ s = true := fun w h => atoms_spec (ws := .code yn_S_breaks cd_S_breaks 5 (some .boolean) :: UW) B.pre w (List.mem_cons_of_mem _ h)
  have hown : s.vm.findClass "StabilitySums" = some m.cls := findClass_of_methodNamed B.named
  have hlocks := B.notSynchronized
  subst hsz
  have hD := hD0.self (sz := s.heap.size)
  generalize hAe : va_A (wS ad T t) s.heap.size = A at hD ⊢
  have hA : ∀ q : Nat, s.heap.size ≤ q → A q := fun q h => by rw [← hAe]; exact Or.inr h
  have hS : va_S A s.heap s.heap [] := va_S.rf
  have hl := lv_entry ([.ref (ad 0), .int (nI i)]) (n := 5) (Nat.le_of_ble_eq_true rfl)
  rw [lg_entry_eq]
  generalize (lg_sl ([.ref (ad 0), .int (nI i)]) ++ List.replicate (5 - (lg_sl ([.ref (ad 0), .int (nI i)])).length) Slot.unset).toArray = ls at hl ⊢
  have hl : lv_has ls 5 [(0, .ref (ad 0)), (1, .int (nI i))] := hl
  generalize hQ : MQ below _ _ s 0 0 A = Q
  obtain ⟨hI0, hI1, hI2, hI3, hI4, hI5⟩ := hI
  refine lv_aload_n hx hb de_S_breaks_0 rfl (lv_at hl 0 rfl) ?_
  refine va_get (D := (dC, dI)) (ci := 0) (v := .ref (ad 4)) (C := "StabilitySums") (T := TB_S) (N := 10) hx hb hts ui_S hown hK hP 0 rfl rfl 3 (by decide) (hts _ uw_259) (fun _ h9 => h9) rfl de_S_breaks_1 ?_
  refine va_get (D := (dC, dI)) (ci := 4) (v := .ref (ad 24)) (C := "StabilitySums$Limits") (T := TB_L) (N := 4) hx hb hts ui_L hown hK hP 4 rfl rfl 0 (by decide) (hts _ uw_152) (fun _ h9 => h9) rfl de_S_breaks_4 ?_
  refine lv_iload_n hx hb de_S_breaks_7 rfl (lv_at hl 1 rfl) ?_
  refine rw_iald (f := t.2.1 0) (j := i) hx hb hK hP 24 1 rfl rfl (by omega) (by decide) de_S_breaks_8 ?_
  refine lv_istore_n (lv' := [(2, .int (t.2.1 0 i)), (0, .ref (ad 0)), (1, .int (nI i))]) hx hb de_S_breaks_9 rfl hl (by decide) rfl (fun ls hl => ?_)
  refine lv_iload_n hx hb de_S_breaks_10 rfl (lv_at hl 0 rfl) ?_
  refine lv_bipush (v := 8) hx hb de_S_breaks_11 (by decide) ?_
  refine lv_icmp_eq (tgt := 22) hx hb de_S_breaks_13 (by decide) (fun c_1 => ?_) (fun c_1 => ?_)
  · skip
    refine lv_iload_n hx hb de_S_breaks_22 rfl (lv_at hl 0 rfl) ?_
    refine lv_bipush (v := 8) hx hb de_S_breaks_23 (by decide) ?_
    refine lv_icmp_ne (tgt := 36) hx hb de_S_breaks_25 (by decide) (fun c_2 => ?_) (fun c_2 => ?_)
    · skip
      refine lv_aload_n hx hb de_S_breaks_36 rfl (lv_at hl 1 rfl) ?_
      refine lv_iload_n hx hb de_S_breaks_37 rfl (lv_at hl 2 rfl) ?_
      refine cl_Vl (As := [.int (nI i)]) (rest := []) ⟨hx, hb, hml, hown, hts⟩ (mt_S_bendingAt l dC dI ad T t i (show i ≤ 10 from by omega)) (cwV 1 hts (uw_V uw_359 uw_361 uw_6 uw_27 uw_362) rfl rfl rfl (by decide +kernel) ⟨Nat.le_of_ble_eq_true rfl, Nat.le_of_ble_eq_true rfl⟩) (va_recv hK hP (ci := 0) (q0 := 0) rfl rfl) rfl hl.1 rfl (Nat.le_of_ble_eq_true rfl) de_S_breaks_38 ⟨Nat.zero_le _, Nat.zero_le _⟩ hK hN hP hD hS hA (fun r_3 _ H locs hw_3 hP hD hS => ?_)
      have hw_3 : r_3 = x_bend t i := hw_3
      refine lv_lstore_n (lv' := [(3, .long r_3), (2, .int (t.2.1 0 i)), (0, .ref (ad 0)), (1, .int (nI i))]) hx hb de_S_breaks_41 rfl hl (by decide) rfl (fun ls hl => ?_)
      refine lv_aload_n hx hb de_S_breaks_42 rfl (lv_at hl 2 rfl) ?_
      refine va_get (D := (dC, dI)) (ci := 0) (v := .ref (ad 4)) (C := "StabilitySums") (T := TB_S) (N := 10) hx hb hts ui_S hown hK hP 0 rfl rfl 3 (by decide) (hts _ uw_259) (fun _ h9 => h9) rfl de_S_breaks_43 ?_
      refine lv_iload_n hx hb de_S_breaks_46 rfl (lv_at hl 3 rfl) ?_
      refine lv_lload_n hx hb de_S_breaks_47 rfl (lv_at hl 0 rfl) ?_
      refine lv_lload_n hx hb de_S_breaks_48 rfl (lv_at hl 0 rfl) ?_
      refine cl_Vi (As := [.int (nI i), .long r_3, .long r_3]) (rest := []) ⟨hx, hb, hml, hown, hts⟩ (mt_L_allows l dC dI ad T t i r_3 r_3 (show i ≤ 10 from by omega)) (cwV 3 hts (uw_V uw_364 uw_365 uw_366 uw_31 uw_367) rfl rfl rfl (by decide +kernel) ⟨Nat.le_of_ble_eq_true rfl, Nat.le_of_ble_eq_true rfl⟩) (va_recv hK hP (ci := 4) (q0 := 4) rfl rfl) rfl hl.1 rfl (Nat.le_of_ble_eq_true rfl) de_S_breaks_49 ⟨Nat.zero_le _, Nat.zero_le _⟩ hK hN hP hD hS hA (fun r_4 _ H locs hw_4 hP hD hS => ?_)
      have hw_4 : bz r_4 (x_alw t i r_3 r_3) := hw_4
      refine lv_if_ne (tgt := 59) hx hb de_S_breaks_52 (by decide) (fun c_5 => ?_) (fun c_5 => ?_)
      · skip
        have c_5 := bz_t hw_4 c_5
        refine lv_iconst (v := 0) hx hb de_S_breaks_59 (by decide) ?_
        have hfin : t = x_bt i t := by
          first | contradiction | (rw [x_bt, if_pos c_1]; done) | (rw [x_bt, if_neg c_1, if_pos c_2]; done) | (rw [x_bt, if_neg c_1, if_neg c_2, if_pos c_5]; done) | (rw [x_bt, if_neg c_1, if_neg c_2, if_neg c_5]; assumption)
        rw [hfin] at hP hD
        subst hQ
        have hpost : bz 0 (x_bp i t) := by
          first | contradiction | (subst_vars; first | exact Or.inl ⟨rfl, by rw [x_bp, if_pos c_1]; exact c_5⟩ | exact Or.inr ⟨rfl, by rw [x_bp, if_pos c_1]; exact not_not_intro c_5⟩ | exact Or.inl ⟨rfl, by rw [x_bp, if_neg c_1, if_pos c_2]; exact c_5⟩ | exact Or.inr ⟨rfl, by rw [x_bp, if_neg c_1, if_pos c_2]; exact not_not_intro c_5⟩ | exact Or.inl ⟨rfl, by rw [x_bp, if_neg c_1, if_neg c_2, if_pos c_5]; trivial⟩ | exact Or.inl ⟨rfl, by rw [x_bp, if_neg c_1, if_neg c_2, if_neg c_5]; exact c_5⟩ | exact Or.inr ⟨rfl, by rw [x_bp, if_neg c_1, if_neg c_2, if_neg c_5]; exact not_not_intro c_5⟩)
        exact W.zret (v := 0) hx hb hr (bz_nar hpost) (fun t9 ht hW => ⟨⟨0, (), rfl, hpost, by rw [ht]; exact hP, va_K.moved hW.alike hK, hD⟩, hS.F ht⟩) hS.2.2 de_S_breaks_60
      · skip
        have c_5 := bz_f hw_4 c_5
        refine lv_iconst (v := 1) hx hb de_S_breaks_55 (by decide) ?_
        refine lv_goto (tgt := 60) hx hb de_S_breaks_56 (by decide) ?_
        have hfin : t = x_bt i t := by
          first | contradiction | (rw [x_bt, if_pos c_1]; done) | (rw [x_bt, if_neg c_1, if_pos c_2]; done) | (rw [x_bt, if_neg c_1, if_neg c_2, if_pos c_5]; done) | (rw [x_bt, if_neg c_1, if_neg c_2, if_neg c_5]; assumption)
        rw [hfin] at hP hD
        subst hQ
        have hpost : bz 1 (x_bp i t) := by
          first | contradiction | (subst_vars; first | exact Or.inl ⟨rfl, by rw [x_bp, if_pos c_1]; exact c_5⟩ | exact Or.inr ⟨rfl, by rw [x_bp, if_pos c_1]; exact not_not_intro c_5⟩ | exact Or.inl ⟨rfl, by rw [x_bp, if_neg c_1, if_pos c_2]; exact c_5⟩ | exact Or.inr ⟨rfl, by rw [x_bp, if_neg c_1, if_pos c_2]; exact not_not_intro c_5⟩ | exact Or.inl ⟨rfl, by rw [x_bp, if_neg c_1, if_neg c_2, if_pos c_5]; trivial⟩ | exact Or.inl ⟨rfl, by rw [x_bp, if_neg c_1, if_neg c_2, if_neg c_5]; exact c_5⟩ | exact Or.inr ⟨rfl, by rw [x_bp, if_neg c_1, if_neg c_2, if_neg c_5]; exact not_not_intro c_5⟩)
        exact W.zret (v := 1) hx hb hr (bz_nar hpost) (fun t9 ht hW => ⟨⟨1, (), rfl, hpost, by rw [ht]; exact hP, va_K.moved hW.alike hK, hD⟩, hS.F ht⟩) hS.2.2 de_S_breaks_60
    · skip
      refine lv_aload_n hx hb de_S_breaks_28 rfl (lv_at hl 1 rfl) ?_
      refine lv_iload_n hx hb de_S_breaks_29 rfl (lv_at hl 2 rfl) ?_
      refine cl_Vl (As := [.int (nI i)]) (rest := []) ⟨hx, hb, hml, hown, hts⟩ (mt_S_shearAt l dC dI ad T t i (show i ≤ 10 from by omega)) (cwV 1 hts (uw_V uw_349 uw_351 uw_5 uw_27 uw_352) rfl rfl rfl (by decide +kernel) ⟨Nat.le_of_ble_eq_true rfl, Nat.le_of_ble_eq_true rfl⟩) (va_recv hK hP (ci := 0) (q0 := 0) rfl rfl) rfl hl.1 rfl (Nat.le_of_ble_eq_true rfl) de_S_breaks_30 ⟨Nat.zero_le _, Nat.zero_le _⟩ hK hN hP hD hS hA (fun r_6 _ H locs hw_6 hP hD hS => ?_)
      have hw_6 : r_6 = x_shear t i := hw_6
      refine lv_goto (tgt := 41) hx hb de_S_breaks_33 (by decide) ?_
      refine lv_lstore_n (lv' := [(3, .long r_6), (2, .int (t.2.1 0 i)), (0, .ref (ad 0)), (1, .int (nI i))]) hx hb de_S_breaks_41 rfl hl (by decide) rfl (fun ls hl => ?_)
      refine lv_aload_n hx hb de_S_breaks_42 rfl (lv_at hl 2 rfl) ?_
      refine va_get (D := (dC, dI)) (ci := 0) (v := .ref (ad 4)) (C := "StabilitySums") (T := TB_S) (N := 10) hx hb hts ui_S hown hK hP 0 rfl rfl 3 (by decide) (hts _ uw_259) (fun _ h9 => h9) rfl de_S_breaks_43 ?_
      refine lv_iload_n hx hb de_S_breaks_46 rfl (lv_at hl 3 rfl) ?_
      refine lv_lload_n hx hb de_S_breaks_47 rfl (lv_at hl 0 rfl) ?_
      refine lv_lload_n hx hb de_S_breaks_48 rfl (lv_at hl 0 rfl) ?_
      refine cl_Vi (As := [.int (nI i), .long r_6, .long r_6]) (rest := []) ⟨hx, hb, hml, hown, hts⟩ (mt_L_allows l dC dI ad T t i r_6 r_6 (show i ≤ 10 from by omega)) (cwV 3 hts (uw_V uw_364 uw_365 uw_366 uw_31 uw_367) rfl rfl rfl (by decide +kernel) ⟨Nat.le_of_ble_eq_true rfl, Nat.le_of_ble_eq_true rfl⟩) (va_recv hK hP (ci := 4) (q0 := 4) rfl rfl) rfl hl.1 rfl (Nat.le_of_ble_eq_true rfl) de_S_breaks_49 ⟨Nat.zero_le _, Nat.zero_le _⟩ hK hN hP hD hS hA (fun r_7 _ H locs hw_7 hP hD hS => ?_)
      have hw_7 : bz r_7 (x_alw t i r_6 r_6) := hw_7
      refine lv_if_ne (tgt := 59) hx hb de_S_breaks_52 (by decide) (fun c_8 => ?_) (fun c_8 => ?_)
      · skip
        have c_8 := bz_t hw_7 c_8
        refine lv_iconst (v := 0) hx hb de_S_breaks_59 (by decide) ?_
        have hfin : t = x_bt i t := by
          first | contradiction | (rw [x_bt, if_pos c_1]; done) | (rw [x_bt, if_neg c_1, if_pos c_2]; done) | (rw [x_bt, if_neg c_1, if_neg c_2, if_pos c_8]; done) | (rw [x_bt, if_neg c_1, if_neg c_2, if_neg c_8]; assumption)
        rw [hfin] at hP hD
        subst hQ
        have hpost : bz 0 (x_bp i t) := by
          first | contradiction | (subst_vars; first | exact Or.inl ⟨rfl, by rw [x_bp, if_pos c_1]; exact c_8⟩ | exact Or.inr ⟨rfl, by rw [x_bp, if_pos c_1]; exact not_not_intro c_8⟩ | exact Or.inl ⟨rfl, by rw [x_bp, if_neg c_1, if_pos c_2]; exact c_8⟩ | exact Or.inr ⟨rfl, by rw [x_bp, if_neg c_1, if_pos c_2]; exact not_not_intro c_8⟩ | exact Or.inl ⟨rfl, by rw [x_bp, if_neg c_1, if_neg c_2, if_pos c_8]; trivial⟩ | exact Or.inl ⟨rfl, by rw [x_bp, if_neg c_1, if_neg c_2, if_neg c_8]; exact c_8⟩ | exact Or.inr ⟨rfl, by rw [x_bp, if_neg c_1, if_neg c_2, if_neg c_8]; exact not_not_intro c_8⟩)
        exact W.zret (v := 0) hx hb hr (bz_nar hpost) (fun t9 ht hW => ⟨⟨0, (), rfl, hpost, by rw [ht]; exact hP, va_K.moved hW.alike hK, hD⟩, hS.F ht⟩) hS.2.2 de_S_breaks_60
      · skip
        have c_8 := bz_f hw_7 c_8
        refine lv_iconst (v := 1) hx hb de_S_breaks_55 (by decide) ?_
        refine lv_goto (tgt := 60) hx hb de_S_breaks_56 (by decide) ?_
        have hfin : t = x_bt i t := by
          first | contradiction | (rw [x_bt, if_pos c_1]; done) | (rw [x_bt, if_neg c_1, if_pos c_2]; done) | (rw [x_bt, if_neg c_1, if_neg c_2, if_pos c_8]; done) | (rw [x_bt, if_neg c_1, if_neg c_2, if_neg c_8]; assumption)
        rw [hfin] at hP hD
        subst hQ
        have hpost : bz 1 (x_bp i t) := by
          first | contradiction | (subst_vars; first | exact Or.inl ⟨rfl, by rw [x_bp, if_pos c_1]; exact c_8⟩ | exact Or.inr ⟨rfl, by rw [x_bp, if_pos c_1]; exact not_not_intro c_8⟩ | exact Or.inl ⟨rfl, by rw [x_bp, if_neg c_1, if_pos c_2]; exact c_8⟩ | exact Or.inr ⟨rfl, by rw [x_bp, if_neg c_1, if_pos c_2]; exact not_not_intro c_8⟩ | exact Or.inl ⟨rfl, by rw [x_bp, if_neg c_1, if_neg c_2, if_pos c_8]; trivial⟩ | exact Or.inl ⟨rfl, by rw [x_bp, if_neg c_1, if_neg c_2, if_neg c_8]; exact c_8⟩ | exact Or.inr ⟨rfl, by rw [x_bp, if_neg c_1, if_neg c_2, if_neg c_8]; exact not_not_intro c_8⟩)
        exact W.zret (v := 1) hx hb hr (bz_nar hpost) (fun t9 ht hW => ⟨⟨1, (), rfl, hpost, by rw [ht]; exact hP, va_K.moved hW.alike hK, hD⟩, hS.F ht⟩) hS.2.2 de_S_breaks_60
  · skip
    refine lv_iload_n hx hb de_S_breaks_16 rfl (lv_at hl 0 rfl) ?_
    refine lv_bipush (v := 9) hx hb de_S_breaks_17 (by decide) ?_
    refine lv_icmp_ne (tgt := 61) hx hb de_S_breaks_19 (by decide) (fun c_9 => ?_) (fun c_9 => ?_)
    · skip
      refine lv_aload_n hx hb de_S_breaks_61 rfl (lv_at hl 1 rfl) ?_
      refine lv_iload_n hx hb de_S_breaks_62 rfl (lv_at hl 0 rfl) ?_
      refine cl_Vi (As := [.int (t.2.1 0 i)]) (rest := []) ⟨hx, hb, hml, hown, hts⟩ (mt_S_isWithoutAnswer l dC dI ad T t (t.2.1 0 i)) (cwV 1 hts (uw_V uw_368 uw_370 uw_7 uw_27 uw_371) rfl rfl rfl (by decide +kernel) ⟨Nat.le_of_ble_eq_true rfl, Nat.le_of_ble_eq_true rfl⟩) (va_recv hK hP (ci := 0) (q0 := 0) rfl rfl) rfl hl.1 rfl (Nat.le_of_ble_eq_true rfl) de_S_breaks_63 ⟨Nat.zero_le _, Nat.zero_le _⟩ hK hN hP hD hS hA (fun r_10 _ H locs hw_10 hP hD hS => ?_)
      have hw_10 : bz r_10 (x_noans (t.2.1 0 i) t) := hw_10
      refine lv_if_eq (tgt := 71) hx hb de_S_breaks_66 (by decide) (fun c_11 => ?_) (fun c_11 => ?_)
      · skip
        have c_11 := bz_f hw_10 c_11
        refine lv_aload_n hx hb de_S_breaks_71 rfl (lv_at hl 1 rfl) ?_
        refine lv_iload_n hx hb de_S_breaks_72 rfl (lv_at hl 0 rfl) ?_
        refine cl_Vv (As := [.int (t.2.1 0 i)]) (rest := []) ⟨hx, hb, hml, hown, hts⟩ (mt_S_work l dC dI ad T t (t.2.1 0 i) (show Iv t from (by refine ⟨?_, ?_, ?_, ?_, ?_, ?_⟩ <;> omega))) (cwV 1 hts (uw_V uw_372 uw_374 uw_8 uw_27 uw_375) rfl rfl rfl (by decide +kernel) ⟨Nat.le_of_ble_eq_true rfl, Nat.le_of_ble_eq_true rfl⟩) (va_recv hK hP (ci := 0) (q0 := 0) rfl rfl) rfl hl.1 rfl (Nat.le_of_ble_eq_true rfl) de_S_breaks_73 ⟨Nat.zero_le _, Nat.zero_le _⟩ hK hN hP hD hS hA (fun _ H locs hw_12 hP hD hS => ?_)
        obtain ⟨t_13, et_13⟩ : ∃ z, z = x_work (t.2.1 0 i) t := ⟨_, rfl⟩
        have hP : va_P (dC, dI) CLS (wS ad T t_13) H := by rw [et_13]; exact hP
        have hD : va_D A (wS ad T t_13) := by rw [et_13]; exact hD
        obtain ⟨_, _, _, _, _, _⟩ : N6p t_13 t := by rw [et_13]; exact nsix (x_work_N _ _)
        refine lv_aload_n hx hb de_S_breaks_76 rfl (lv_at hl 1 rfl) ?_
        refine va_get (D := (dC, dI)) (ci := 0) (v := .ref (ad 4)) (C := "StabilitySums") (T := TB_S) (N := 10) hx hb hts ui_S hown hK hP 0 rfl rfl 3 (by decide) (hts _ uw_259) (fun _ h9 => h9) rfl de_S_breaks_77 ?_
        refine lv_iload_n hx hb de_S_breaks_80 rfl (lv_at hl 2 rfl) ?_
        refine lv_aload_n hx hb de_S_breaks_81 rfl (lv_at hl 1 rfl) ?_
        refine va_get (D := (dC, dI)) (ci := 0) (v := .ref (ad 8)) (C := "StabilitySums") (T := TB_S) (N := 10) hx hb hts ui_S hown hK hP 0 rfl rfl 7 (by decide) (hts _ uw_263) (fun _ h9 => h9) rfl de_S_breaks_82 ?_
        refine cl_Vl (As := []) (rest := [.int (nI i), .ref (ad 4)]) ⟨hx, hb, hml, hown, hts⟩ (mt_F_floor l dC dI ad T t_13 ) (cwV 0 hts (uw_V uw_385 uw_386 uw_387 uw_35 uw_388) rfl rfl rfl (by decide +kernel) ⟨Nat.le_of_ble_eq_true rfl, Nat.le_of_ble_eq_true rfl⟩) (va_recv hK hP (ci := 8) (q0 := 8) rfl rfl) rfl hl.1 rfl (Nat.le_of_ble_eq_true rfl) de_S_breaks_85 ⟨Nat.zero_le _, Nat.zero_le _⟩ hK hN hP hD hS hA (fun r_14 _ H locs hw_14 hP hD hS => ?_)
        have hw_14 : r_14 = x_flr t_13 := hw_14
        refine lv_aload_n hx hb de_S_breaks_88 rfl (lv_at hl 1 rfl) ?_
        refine va_get (D := (dC, dI)) (ci := 0) (v := .ref (ad 8)) (C := "StabilitySums") (T := TB_S) (N := 10) hx hb hts ui_S hown hK hP 0 rfl rfl 7 (by decide) (hts _ uw_263) (fun _ h9 => h9) rfl de_S_breaks_89 ?_
        refine cl_Vl (As := []) (rest := [.long r_14, .int (nI i), .ref (ad 4)]) ⟨hx, hb, hml, hown, hts⟩ (mt_F_ceiling l dC dI ad T t_13 ) (cwV 0 hts (uw_V uw_390 uw_391 uw_392 uw_35 uw_393) rfl rfl rfl (by decide +kernel) ⟨Nat.le_of_ble_eq_true rfl, Nat.le_of_ble_eq_true rfl⟩) (va_recv hK hP (ci := 8) (q0 := 8) rfl rfl) rfl hl.1 rfl (Nat.le_of_ble_eq_true rfl) de_S_breaks_92 ⟨Nat.zero_le _, Nat.zero_le _⟩ hK hN hP hD hS hA (fun r_15 _ H locs hw_15 hP hD hS => ?_)
        have hw_15 : r_15 = x_cei t_13 := hw_15
        refine cl_Vi (As := [.int (nI i), .long r_14, .long r_15]) (rest := []) ⟨hx, hb, hml, hown, hts⟩ (mt_L_allows l dC dI ad T t_13 i r_14 r_15 (show i ≤ 10 from by omega)) (cwV 3 hts (uw_V uw_364 uw_365 uw_366 uw_31 uw_367) rfl rfl rfl (by decide +kernel) ⟨Nat.le_of_ble_eq_true rfl, Nat.le_of_ble_eq_true rfl⟩) (va_recv hK hP (ci := 4) (q0 := 4) rfl rfl) rfl hl.1 rfl (Nat.le_of_ble_eq_true rfl) de_S_breaks_95 ⟨Nat.zero_le _, Nat.zero_le _⟩ hK hN hP hD hS hA (fun r_16 _ H locs hw_16 hP hD hS => ?_)
        have hw_16 : bz r_16 (x_alw t_13 i r_14 r_15) := hw_16
        refine lv_if_ne (tgt := 105) hx hb de_S_breaks_98 (by decide) (fun c_17 => ?_) (fun c_17 => ?_)
        · skip
          have c_17 := bz_t hw_16 c_17
          refine lv_iconst (v := 0) hx hb de_S_breaks_105 (by decide) ?_
          have hfin : t_13 = x_bt i t := by
            first | contradiction | (rw [x_bt, if_pos c_1]; done) | (rw [x_bt, if_neg c_1, if_pos c_9]; done) | (rw [x_bt, if_neg c_1, if_neg c_9, if_pos c_11]; done) | (rw [x_bt, if_neg c_1, if_neg c_9, if_neg c_11]; assumption)
          rw [hfin] at hP hD
          subst hQ
          have hpost : bz 0 (x_bp i t) := by
            first | contradiction | (subst_vars; first | exact Or.inl ⟨rfl, by rw [x_bp, if_pos c_1]; exact c_17⟩ | exact Or.inr ⟨rfl, by rw [x_bp, if_pos c_1]; exact not_not_intro c_17⟩ | exact Or.inl ⟨rfl, by rw [x_bp, if_neg c_1, if_pos c_9]; exact c_17⟩ | exact Or.inr ⟨rfl, by rw [x_bp, if_neg c_1, if_pos c_9]; exact not_not_intro c_17⟩ | exact Or.inl ⟨rfl, by rw [x_bp, if_neg c_1, if_neg c_9, if_pos c_11]; trivial⟩ | exact Or.inl ⟨rfl, by rw [x_bp, if_neg c_1, if_neg c_9, if_neg c_11]; exact c_17⟩ | exact Or.inr ⟨rfl, by rw [x_bp, if_neg c_1, if_neg c_9, if_neg c_11]; exact not_not_intro c_17⟩)
          exact W.zret (v := 0) hx hb hr (bz_nar hpost) (fun t9 ht hW => ⟨⟨0, (), rfl, hpost, by rw [ht]; exact hP, va_K.moved hW.alike hK, hD⟩, hS.F ht⟩) hS.2.2 de_S_breaks_106
        · skip
          have c_17 := bz_f hw_16 c_17
          refine lv_iconst (v := 1) hx hb de_S_breaks_101 (by decide) ?_
          refine lv_goto (tgt := 106) hx hb de_S_breaks_102 (by decide) ?_
          have hfin : t_13 = x_bt i t := by
            first | contradiction | (rw [x_bt, if_pos c_1]; done) | (rw [x_bt, if_neg c_1, if_pos c_9]; done) | (rw [x_bt, if_neg c_1, if_neg c_9, if_pos c_11]; done) | (rw [x_bt, if_neg c_1, if_neg c_9, if_neg c_11]; assumption)
          rw [hfin] at hP hD
          subst hQ
          have hpost : bz 1 (x_bp i t) := by
            first | contradiction | (subst_vars; first | exact Or.inl ⟨rfl, by rw [x_bp, if_pos c_1]; exact c_17⟩ | exact Or.inr ⟨rfl, by rw [x_bp, if_pos c_1]; exact not_not_intro c_17⟩ | exact Or.inl ⟨rfl, by rw [x_bp, if_neg c_1, if_pos c_9]; exact c_17⟩ | exact Or.inr ⟨rfl, by rw [x_bp, if_neg c_1, if_pos c_9]; exact not_not_intro c_17⟩ | exact Or.inl ⟨rfl, by rw [x_bp, if_neg c_1, if_neg c_9, if_pos c_11]; trivial⟩ | exact Or.inl ⟨rfl, by rw [x_bp, if_neg c_1, if_neg c_9, if_neg c_11]; exact c_17⟩ | exact Or.inr ⟨rfl, by rw [x_bp, if_neg c_1, if_neg c_9, if_neg c_11]; exact not_not_intro c_17⟩)
          exact W.zret (v := 1) hx hb hr (bz_nar hpost) (fun t9 ht hW => ⟨⟨1, (), rfl, hpost, by rw [ht]; exact hP, va_K.moved hW.alike hK, hD⟩, hS.F ht⟩) hS.2.2 de_S_breaks_106
      · skip
        have c_11 := bz_t hw_10 c_11
        refine lv_iconst (v := 1) hx hb de_S_breaks_69 (by decide) ?_
        have hfin : t = x_bt i t := by
          first | contradiction | (rw [x_bt, if_pos c_1]; done) | (rw [x_bt, if_neg c_1, if_pos c_9]; done) | (rw [x_bt, if_neg c_1, if_neg c_9, if_pos c_11]; done) | (rw [x_bt, if_neg c_1, if_neg c_9, if_neg c_11]; assumption)
        rw [hfin] at hP hD
        subst hQ
        have hpost : bz 1 (x_bp i t) := by
          first | contradiction | (subst_vars; first | exact Or.inl ⟨rfl, by rw [x_bp, if_pos c_1]; exact c_11⟩ | exact Or.inr ⟨rfl, by rw [x_bp, if_pos c_1]; exact not_not_intro c_11⟩ | exact Or.inl ⟨rfl, by rw [x_bp, if_neg c_1, if_pos c_9]; exact c_11⟩ | exact Or.inr ⟨rfl, by rw [x_bp, if_neg c_1, if_pos c_9]; exact not_not_intro c_11⟩ | exact Or.inl ⟨rfl, by rw [x_bp, if_neg c_1, if_neg c_9, if_pos c_11]; trivial⟩ | exact Or.inl ⟨rfl, by rw [x_bp, if_neg c_1, if_neg c_9, if_neg c_11]; exact c_11⟩ | exact Or.inr ⟨rfl, by rw [x_bp, if_neg c_1, if_neg c_9, if_neg c_11]; exact not_not_intro c_11⟩)
        exact W.zret (v := 1) hx hb hr (bz_nar hpost) (fun t9 ht hW => ⟨⟨1, (), rfl, hpost, by rw [ht]; exact hP, va_K.moved hW.alike hK, hD⟩, hS.F ht⟩) hS.2.2 de_S_breaks_70
    · skip
      refine lv_iload_n hx hb de_S_breaks_22 rfl (lv_at hl 0 rfl) ?_
      refine lv_bipush (v := 8) hx hb de_S_breaks_23 (by decide) ?_
      refine lv_icmp_ne (tgt := 36) hx hb de_S_breaks_25 (by decide) (fun c_18 => ?_) (fun c_18 => ?_)
      · skip
        refine lv_aload_n hx hb de_S_breaks_36 rfl (lv_at hl 1 rfl) ?_
        refine lv_iload_n hx hb de_S_breaks_37 rfl (lv_at hl 2 rfl) ?_
        refine cl_Vl (As := [.int (nI i)]) (rest := []) ⟨hx, hb, hml, hown, hts⟩ (mt_S_bendingAt l dC dI ad T t i (show i ≤ 10 from by omega)) (cwV 1 hts (uw_V uw_359 uw_361 uw_6 uw_27 uw_362) rfl rfl rfl (by decide +kernel) ⟨Nat.le_of_ble_eq_true rfl, Nat.le_of_ble_eq_true rfl⟩) (va_recv hK hP (ci := 0) (q0 := 0) rfl rfl) rfl hl.1 rfl (Nat.le_of_ble_eq_true rfl) de_S_breaks_38 ⟨Nat.zero_le _, Nat.zero_le _⟩ hK hN hP hD hS hA (fun r_19 _ H locs hw_19 hP hD hS => ?_)
        have hw_19 : r_19 = x_bend t i := hw_19
        refine lv_lstore_n (lv' := [(3, .long r_19), (2, .int (t.2.1 0 i)), (0, .ref (ad 0)), (1, .int (nI i))]) hx hb de_S_breaks_41 rfl hl (by decide) rfl (fun ls hl => ?_)
        refine lv_aload_n hx hb de_S_breaks_42 rfl (lv_at hl 2 rfl) ?_
        refine va_get (D := (dC, dI)) (ci := 0) (v := .ref (ad 4)) (C := "StabilitySums") (T := TB_S) (N := 10) hx hb hts ui_S hown hK hP 0 rfl rfl 3 (by decide) (hts _ uw_259) (fun _ h9 => h9) rfl de_S_breaks_43 ?_
        refine lv_iload_n hx hb de_S_breaks_46 rfl (lv_at hl 3 rfl) ?_
        refine lv_lload_n hx hb de_S_breaks_47 rfl (lv_at hl 0 rfl) ?_
        refine lv_lload_n hx hb de_S_breaks_48 rfl (lv_at hl 0 rfl) ?_
        refine cl_Vi (As := [.int (nI i), .long r_19, .long r_19]) (rest := []) ⟨hx, hb, hml, hown, hts⟩ (mt_L_allows l dC dI ad T t i r_19 r_19 (show i ≤ 10 from by omega)) (cwV 3 hts (uw_V uw_364 uw_365 uw_366 uw_31 uw_367) rfl rfl rfl (by decide +kernel) ⟨Nat.le_of_ble_eq_true rfl, Nat.le_of_ble_eq_true rfl⟩) (va_recv hK hP (ci := 4) (q0 := 4) rfl rfl) rfl hl.1 rfl (Nat.le_of_ble_eq_true rfl) de_S_breaks_49 ⟨Nat.zero_le _, Nat.zero_le _⟩ hK hN hP hD hS hA (fun r_20 _ H locs hw_20 hP hD hS => ?_)
        have hw_20 : bz r_20 (x_alw t i r_19 r_19) := hw_20
        refine lv_if_ne (tgt := 59) hx hb de_S_breaks_52 (by decide) (fun c_21 => ?_) (fun c_21 => ?_)
        · skip
          have c_21 := bz_t hw_20 c_21
          refine lv_iconst (v := 0) hx hb de_S_breaks_59 (by decide) ?_
          have hfin : t = x_bt i t := by
            first | contradiction | (rw [x_bt, if_pos c_1]; done) | (rw [x_bt, if_neg c_1, if_pos c_9]; done) | (rw [x_bt, if_neg c_1, if_neg c_9, if_pos c_18]; done) | (rw [x_bt, if_neg c_1, if_neg c_9, if_neg c_18]; assumption)
          rw [hfin] at hP hD
          subst hQ
          have hpost : bz 0 (x_bp i t) := by
            first | contradiction | (subst_vars; first | exact Or.inl ⟨rfl, by rw [x_bp, if_pos c_1]; exact c_21⟩ | exact Or.inr ⟨rfl, by rw [x_bp, if_pos c_1]; exact not_not_intro c_21⟩ | exact Or.inl ⟨rfl, by rw [x_bp, if_neg c_1, if_pos c_9]; exact c_21⟩ | exact Or.inr ⟨rfl, by rw [x_bp, if_neg c_1, if_pos c_9]; exact not_not_intro c_21⟩ | exact Or.inl ⟨rfl, by rw [x_bp, if_neg c_1, if_neg c_9, if_pos c_18]; trivial⟩ | exact Or.inl ⟨rfl, by rw [x_bp, if_neg c_1, if_neg c_9, if_neg c_18]; exact c_21⟩ | exact Or.inr ⟨rfl, by rw [x_bp, if_neg c_1, if_neg c_9, if_neg c_18]; exact not_not_intro c_21⟩)
          exact W.zret (v := 0) hx hb hr (bz_nar hpost) (fun t9 ht hW => ⟨⟨0, (), rfl, hpost, by rw [ht]; exact hP, va_K.moved hW.alike hK, hD⟩, hS.F ht⟩) hS.2.2 de_S_breaks_60
        · skip
          have c_21 := bz_f hw_20 c_21
          refine lv_iconst (v := 1) hx hb de_S_breaks_55 (by decide) ?_
          refine lv_goto (tgt := 60) hx hb de_S_breaks_56 (by decide) ?_
          have hfin : t = x_bt i t := by
            first | contradiction | (rw [x_bt, if_pos c_1]; done) | (rw [x_bt, if_neg c_1, if_pos c_9]; done) | (rw [x_bt, if_neg c_1, if_neg c_9, if_pos c_18]; done) | (rw [x_bt, if_neg c_1, if_neg c_9, if_neg c_18]; assumption)
          rw [hfin] at hP hD
          subst hQ
          have hpost : bz 1 (x_bp i t) := by
            first | contradiction | (subst_vars; first | exact Or.inl ⟨rfl, by rw [x_bp, if_pos c_1]; exact c_21⟩ | exact Or.inr ⟨rfl, by rw [x_bp, if_pos c_1]; exact not_not_intro c_21⟩ | exact Or.inl ⟨rfl, by rw [x_bp, if_neg c_1, if_pos c_9]; exact c_21⟩ | exact Or.inr ⟨rfl, by rw [x_bp, if_neg c_1, if_pos c_9]; exact not_not_intro c_21⟩ | exact Or.inl ⟨rfl, by rw [x_bp, if_neg c_1, if_neg c_9, if_pos c_18]; trivial⟩ | exact Or.inl ⟨rfl, by rw [x_bp, if_neg c_1, if_neg c_9, if_neg c_18]; exact c_21⟩ | exact Or.inr ⟨rfl, by rw [x_bp, if_neg c_1, if_neg c_9, if_neg c_18]; exact not_not_intro c_21⟩)
          exact W.zret (v := 1) hx hb hr (bz_nar hpost) (fun t9 ht hW => ⟨⟨1, (), rfl, hpost, by rw [ht]; exact hP, va_K.moved hW.alike hK, hD⟩, hS.F ht⟩) hS.2.2 de_S_breaks_60
      · skip
        refine lv_aload_n hx hb de_S_breaks_28 rfl (lv_at hl 1 rfl) ?_
        refine lv_iload_n hx hb de_S_breaks_29 rfl (lv_at hl 2 rfl) ?_
        refine cl_Vl (As := [.int (nI i)]) (rest := []) ⟨hx, hb, hml, hown, hts⟩ (mt_S_shearAt l dC dI ad T t i (show i ≤ 10 from by omega)) (cwV 1 hts (uw_V uw_349 uw_351 uw_5 uw_27 uw_352) rfl rfl rfl (by decide +kernel) ⟨Nat.le_of_ble_eq_true rfl, Nat.le_of_ble_eq_true rfl⟩) (va_recv hK hP (ci := 0) (q0 := 0) rfl rfl) rfl hl.1 rfl (Nat.le_of_ble_eq_true rfl) de_S_breaks_30 ⟨Nat.zero_le _, Nat.zero_le _⟩ hK hN hP hD hS hA (fun r_22 _ H locs hw_22 hP hD hS => ?_)
        have hw_22 : r_22 = x_shear t i := hw_22
        refine lv_goto (tgt := 41) hx hb de_S_breaks_33 (by decide) ?_
        refine lv_lstore_n (lv' := [(3, .long r_22), (2, .int (t.2.1 0 i)), (0, .ref (ad 0)), (1, .int (nI i))]) hx hb de_S_breaks_41 rfl hl (by decide) rfl (fun ls hl => ?_)
        refine lv_aload_n hx hb de_S_breaks_42 rfl (lv_at hl 2 rfl) ?_
        refine va_get (D := (dC, dI)) (ci := 0) (v := .ref (ad 4)) (C := "StabilitySums") (T := TB_S) (N := 10) hx hb hts ui_S hown hK hP 0 rfl rfl 3 (by decide) (hts _ uw_259) (fun _ h9 => h9) rfl de_S_breaks_43 ?_
        refine lv_iload_n hx hb de_S_breaks_46 rfl (lv_at hl 3 rfl) ?_
        refine lv_lload_n hx hb de_S_breaks_47 rfl (lv_at hl 0 rfl) ?_
        refine lv_lload_n hx hb de_S_breaks_48 rfl (lv_at hl 0 rfl) ?_
        refine cl_Vi (As := [.int (nI i), .long r_22, .long r_22]) (rest := []) ⟨hx, hb, hml, hown, hts⟩ (mt_L_allows l dC dI ad T t i r_22 r_22 (show i ≤ 10 from by omega)) (cwV 3 hts (uw_V uw_364 uw_365 uw_366 uw_31 uw_367) rfl rfl rfl (by decide +kernel) ⟨Nat.le_of_ble_eq_true rfl, Nat.le_of_ble_eq_true rfl⟩) (va_recv hK hP (ci := 4) (q0 := 4) rfl rfl) rfl hl.1 rfl (Nat.le_of_ble_eq_true rfl) de_S_breaks_49 ⟨Nat.zero_le _, Nat.zero_le _⟩ hK hN hP hD hS hA (fun r_23 _ H locs hw_23 hP hD hS => ?_)
        have hw_23 : bz r_23 (x_alw t i r_22 r_22) := hw_23
        refine lv_if_ne (tgt := 59) hx hb de_S_breaks_52 (by decide) (fun c_24 => ?_) (fun c_24 => ?_)
        · skip
          have c_24 := bz_t hw_23 c_24
          refine lv_iconst (v := 0) hx hb de_S_breaks_59 (by decide) ?_
          have hfin : t = x_bt i t := by
            first | contradiction | (rw [x_bt, if_pos c_1]; done) | (rw [x_bt, if_neg c_1, if_pos c_9]; done) | (rw [x_bt, if_neg c_1, if_neg c_9, if_pos c_18]; done) | (rw [x_bt, if_neg c_1, if_neg c_9, if_neg c_18]; assumption)
          rw [hfin] at hP hD
          subst hQ
          have hpost : bz 0 (x_bp i t) := by
            first | contradiction | (subst_vars; first | exact Or.inl ⟨rfl, by rw [x_bp, if_pos c_1]; exact c_24⟩ | exact Or.inr ⟨rfl, by rw [x_bp, if_pos c_1]; exact not_not_intro c_24⟩ | exact Or.inl ⟨rfl, by rw [x_bp, if_neg c_1, if_pos c_9]; exact c_24⟩ | exact Or.inr ⟨rfl, by rw [x_bp, if_neg c_1, if_pos c_9]; exact not_not_intro c_24⟩ | exact Or.inl ⟨rfl, by rw [x_bp, if_neg c_1, if_neg c_9, if_pos c_18]; trivial⟩ | exact Or.inl ⟨rfl, by rw [x_bp, if_neg c_1, if_neg c_9, if_neg c_18]; exact c_24⟩ | exact Or.inr ⟨rfl, by rw [x_bp, if_neg c_1, if_neg c_9, if_neg c_18]; exact not_not_intro c_24⟩)
          exact W.zret (v := 0) hx hb hr (bz_nar hpost) (fun t9 ht hW => ⟨⟨0, (), rfl, hpost, by rw [ht]; exact hP, va_K.moved hW.alike hK, hD⟩, hS.F ht⟩) hS.2.2 de_S_breaks_60
        · skip
          have c_24 := bz_f hw_23 c_24
          refine lv_iconst (v := 1) hx hb de_S_breaks_55 (by decide) ?_
          refine lv_goto (tgt := 60) hx hb de_S_breaks_56 (by decide) ?_
          have hfin : t = x_bt i t := by
            first | contradiction | (rw [x_bt, if_pos c_1]; done) | (rw [x_bt, if_neg c_1, if_pos c_9]; done) | (rw [x_bt, if_neg c_1, if_neg c_9, if_pos c_18]; done) | (rw [x_bt, if_neg c_1, if_neg c_9, if_neg c_18]; assumption)
          rw [hfin] at hP hD
          subst hQ
          have hpost : bz 1 (x_bp i t) := by
            first | contradiction | (subst_vars; first | exact Or.inl ⟨rfl, by rw [x_bp, if_pos c_1]; exact c_24⟩ | exact Or.inr ⟨rfl, by rw [x_bp, if_pos c_1]; exact not_not_intro c_24⟩ | exact Or.inl ⟨rfl, by rw [x_bp, if_neg c_1, if_pos c_9]; exact c_24⟩ | exact Or.inr ⟨rfl, by rw [x_bp, if_neg c_1, if_pos c_9]; exact not_not_intro c_24⟩ | exact Or.inl ⟨rfl, by rw [x_bp, if_neg c_1, if_neg c_9, if_pos c_18]; trivial⟩ | exact Or.inl ⟨rfl, by rw [x_bp, if_neg c_1, if_neg c_9, if_neg c_18]; exact c_24⟩ | exact Or.inr ⟨rfl, by rw [x_bp, if_neg c_1, if_neg c_9, if_neg c_18]; exact not_not_intro c_24⟩)
          exact W.zret (v := 1) hx hb hr (bz_nar hpost) (fun t9 ht hW => ⟨⟨1, (), rfl, hpost, by rw [ht]; exact hP, va_K.moved hW.alike hK, hD⟩, hS.F ht⟩) hS.2.2 de_S_breaks_60
end

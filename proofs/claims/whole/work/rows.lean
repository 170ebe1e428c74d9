section
-- ===== PART A: goes FIRST, ahead of the names: the tables' words, and 'selects' of the private methods out of them =====
/-- a private method of a class that the tables say can be made, by its rows of tables_1 -/
def lw_okq (q : MethodName × Nat) : Prop := (q.1.cls ≠ "java/lang/invoke/MethodHandle" ∧ q.1.cls ≠ "java/lang/invoke/VarHandle") ∧ Cond.instantiable q.1.cls q.2 ∈ tables_1 ∧ Cond.privateMethod q.1 ∈ tables_1 ∧ Cond.instanceMethod q.1 ∈ tables_1
theorem lw_p0 : lw_okq (⟨"SurveyStore", "branchAt", "(I)LSurveyStore$Branch;"⟩, 14) := ⟨⟨by decide +kernel, by decide +kernel⟩, List.mem_of_getElem? (i := 17) (by decide +kernel), List.mem_of_getElem? (i := 158) (by decide +kernel), List.mem_of_getElem? (i := 159) (by decide +kernel)⟩
theorem lw_p1 : lw_okq (⟨"SurveyStore", "cellAt", "(IIII)J"⟩, 14) := ⟨⟨by decide +kernel, by decide +kernel⟩, List.mem_of_getElem? (i := 17) (by decide +kernel), List.mem_of_getElem? (i := 211) (by decide +kernel), List.mem_of_getElem? (i := 212) (by decide +kernel)⟩
theorem lw_p2 : lw_okq (⟨"SurveyStore", "cellsOf", "(I)[J"⟩, 14) := ⟨⟨by decide +kernel, by decide +kernel⟩, List.mem_of_getElem? (i := 17) (by decide +kernel), List.mem_of_getElem? (i := 215) (by decide +kernel), List.mem_of_getElem? (i := 216) (by decide +kernel)⟩
theorem lw_p3 : lw_okq (⟨"SurveyStore", "commitAt", "(I)LSurveyStore$Commit;"⟩, 14) := ⟨⟨by decide +kernel, by decide +kernel⟩, List.mem_of_getElem? (i := 17) (by decide +kernel), List.mem_of_getElem? (i := 219) (by decide +kernel), List.mem_of_getElem? (i := 220) (by decide +kernel)⟩
theorem lw_p4 : lw_okq (⟨"SurveyStore", "branchOfPlace", "(I)LSurveyStore$Branch;"⟩, 14) := ⟨⟨by decide +kernel, by decide +kernel⟩, List.mem_of_getElem? (i := 17) (by decide +kernel), List.mem_of_getElem? (i := 223) (by decide +kernel), List.mem_of_getElem? (i := 224) (by decide +kernel)⟩
theorem lw_p5 : lw_okq (⟨"SurveyStore", "nearestOf", "(II)I"⟩, 14) := ⟨⟨by decide +kernel, by decide +kernel⟩, List.mem_of_getElem? (i := 17) (by decide +kernel), List.mem_of_getElem? (i := 261) (by decide +kernel), List.mem_of_getElem? (i := 262) (by decide +kernel)⟩
theorem lw_p6 : lw_okq (⟨"SurveyStore", "ancestorsOf", "(I)I"⟩, 14) := ⟨⟨by decide +kernel, by decide +kernel⟩, List.mem_of_getElem? (i := 17) (by decide +kernel), List.mem_of_getElem? (i := 268) (by decide +kernel), List.mem_of_getElem? (i := 269) (by decide +kernel)⟩
theorem lw_p7 : lw_okq (⟨"SurveyStore", "aboutCommit", "(LSurveyStore$Commit;II)I"⟩, 14) := ⟨⟨by decide +kernel, by decide +kernel⟩, List.mem_of_getElem? (i := 17) (by decide +kernel), List.mem_of_getElem? (i := 276) (by decide +kernel), List.mem_of_getElem? (i := 277) (by decide +kernel)⟩
theorem lw_p8 : lw_okq (⟨"SurveyStore", "childrenOf", "(I)I"⟩, 14) := ⟨⟨by decide +kernel, by decide +kernel⟩, List.mem_of_getElem? (i := 17) (by decide +kernel), List.mem_of_getElem? (i := 280) (by decide +kernel), List.mem_of_getElem? (i := 281) (by decide +kernel)⟩
theorem lw_p9 : lw_okq (⟨"SurveyStore", "aboutBranch", "(LSurveyStore$Branch;I)I"⟩, 14) := ⟨⟨by decide +kernel, by decide +kernel⟩, List.mem_of_getElem? (i := 17) (by decide +kernel), List.mem_of_getElem? (i := 288) (by decide +kernel), List.mem_of_getElem? (i := 289) (by decide +kernel)⟩
theorem lw_p10 : lw_okq (⟨"SurveyStore", "isChanged", "(LSurveyStore$Branch;)Z"⟩, 14) := ⟨⟨by decide +kernel, by decide +kernel⟩, List.mem_of_getElem? (i := 17) (by decide +kernel), List.mem_of_getElem? (i := 292) (by decide +kernel), List.mem_of_getElem? (i := 293) (by decide +kernel)⟩
theorem lw_p11 : lw_okq (⟨"java/lang/Throwable", "fillInStackTrace", "(I)Ljava/lang/Throwable;"⟩, 6) := ⟨⟨by decide +kernel, by decide +kernel⟩, List.mem_of_getElem? (i := 392) (by decide +kernel), List.mem_of_getElem? (i := 390) (by decide +kernel), List.mem_of_getElem? (i := 391) (by decide +kernel)⟩
theorem lw_p12 : lw_okq (⟨"SurveyStore", "branchToEdit", "(II)LSurveyStore$Branch;"⟩, 14) := ⟨⟨by decide +kernel, by decide +kernel⟩, List.mem_of_getElem? (i := 17) (by decide +kernel), List.mem_of_getElem? (i := 439) (by decide +kernel), List.mem_of_getElem? (i := 440) (by decide +kernel)⟩
theorem lw_p13 : lw_okq (⟨"SurveyStore", "isInside", "(III)Z"⟩, 14) := ⟨⟨by decide +kernel, by decide +kernel⟩, List.mem_of_getElem? (i := 17) (by decide +kernel), List.mem_of_getElem? (i := 465) (by decide +kernel), List.mem_of_getElem? (i := 466) (by decide +kernel)⟩
theorem lw_p14 : lw_okq (⟨"SurveyStore", "isRightOf", "(IIII)Z"⟩, 14) := ⟨⟨by decide +kernel, by decide +kernel⟩, List.mem_of_getElem? (i := 17) (by decide +kernel), List.mem_of_getElem? (i := 469) (by decide +kernel), List.mem_of_getElem? (i := 470) (by decide +kernel)⟩
theorem lw_p15 : lw_okq (⟨"SurveyStore", "mapped", "(I)I"⟩, 14) := ⟨⟨by decide +kernel, by decide +kernel⟩, List.mem_of_getElem? (i := 17) (by decide +kernel), List.mem_of_getElem? (i := 488) (by decide +kernel), List.mem_of_getElem? (i := 489) (by decide +kernel)⟩
def lw_privs_1 : List (MethodName × Nat) := [(⟨"SurveyStore", "branchAt", "(I)LSurveyStore$Branch;"⟩, 14), (⟨"SurveyStore", "cellAt", "(IIII)J"⟩, 14), (⟨"SurveyStore", "cellsOf", "(I)[J"⟩, 14), (⟨"SurveyStore", "commitAt", "(I)LSurveyStore$Commit;"⟩, 14), (⟨"SurveyStore", "branchOfPlace", "(I)LSurveyStore$Branch;"⟩, 14), (⟨"SurveyStore", "nearestOf", "(II)I"⟩, 14), (⟨"SurveyStore", "ancestorsOf", "(I)I"⟩, 14), (⟨"SurveyStore", "aboutCommit", "(LSurveyStore$Commit;II)I"⟩, 14), (⟨"SurveyStore", "childrenOf", "(I)I"⟩, 14), (⟨"SurveyStore", "aboutBranch", "(LSurveyStore$Branch;I)I"⟩, 14), (⟨"SurveyStore", "isChanged", "(LSurveyStore$Branch;)Z"⟩, 14), (⟨"java/lang/Throwable", "fillInStackTrace", "(I)Ljava/lang/Throwable;"⟩, 6), (⟨"SurveyStore", "branchToEdit", "(II)LSurveyStore$Branch;"⟩, 14), (⟨"SurveyStore", "isInside", "(III)Z"⟩, 14), (⟨"SurveyStore", "isRightOf", "(IIII)Z"⟩, 14), (⟨"SurveyStore", "mapped", "(I)I"⟩, 14)]
theorem lw_r1 : ∀ q ∈ lw_privs_1, lw_okq q := List.forall_mem_cons.mpr ⟨lw_p0, List.forall_mem_cons.mpr ⟨lw_p1, List.forall_mem_cons.mpr ⟨lw_p2, List.forall_mem_cons.mpr ⟨lw_p3, List.forall_mem_cons.mpr ⟨lw_p4, List.forall_mem_cons.mpr ⟨lw_p5, List.forall_mem_cons.mpr ⟨lw_p6, List.forall_mem_cons.mpr ⟨lw_p7, List.forall_mem_cons.mpr ⟨lw_p8, List.forall_mem_cons.mpr ⟨lw_p9, List.forall_mem_cons.mpr ⟨lw_p10, List.forall_mem_cons.mpr ⟨lw_p11, List.forall_mem_cons.mpr ⟨lw_p12, List.forall_mem_cons.mpr ⟨lw_p13, List.forall_mem_cons.mpr ⟨lw_p14, List.forall_mem_cons.mpr ⟨lw_p15, fun _ h => absurd h List.not_mem_nil⟩⟩⟩⟩⟩⟩⟩⟩⟩⟩⟩⟩⟩⟩⟩⟩
theorem lw_p16 : lw_okq (⟨"SurveyStore", "baseOf", "(III)LSurveyStore$BaseRow;"⟩, 14) := ⟨⟨by decide +kernel, by decide +kernel⟩, List.mem_of_getElem? (i := 17) (by decide +kernel), List.mem_of_getElem? (i := 542) (by decide +kernel), List.mem_of_getElem? (i := 543) (by decide +kernel)⟩
theorem lw_p17 : lw_okq (⟨"SurveyStore", "baseRowAt", "(I)LSurveyStore$BaseRow;"⟩, 14) := ⟨⟨by decide +kernel, by decide +kernel⟩, List.mem_of_getElem? (i := 17) (by decide +kernel), List.mem_of_getElem? (i := 546) (by decide +kernel), List.mem_of_getElem? (i := 547) (by decide +kernel)⟩
theorem lw_p18 : lw_okq (⟨"SurveyStore", "joinBase", "(LSurveyStore$BaseRow;III)V"⟩, 14) := ⟨⟨by decide +kernel, by decide +kernel⟩, List.mem_of_getElem? (i := 17) (by decide +kernel), List.mem_of_getElem? (i := 560) (by decide +kernel), List.mem_of_getElem? (i := 561) (by decide +kernel)⟩
theorem lw_p19 : lw_okq (⟨"SurveyStore", "mergeCells", "([J[J[ILSurveyStore$Conflicts;)V"⟩, 14) := ⟨⟨by decide +kernel, by decide +kernel⟩, List.mem_of_getElem? (i := 17) (by decide +kernel), List.mem_of_getElem? (i := 614) (by decide +kernel), List.mem_of_getElem? (i := 615) (by decide +kernel)⟩
theorem lw_p20 : lw_okq (⟨"SurveyStoreModel", "isCommit", "(I)Z"⟩, 28) := ⟨⟨by decide +kernel, by decide +kernel⟩, List.mem_of_getElem? (i := 645) (by decide +kernel), List.mem_of_getElem? (i := 754) (by decide +kernel), List.mem_of_getElem? (i := 755) (by decide +kernel)⟩
theorem lw_p21 : lw_okq (⟨"SurveyStoreModel", "become", "(II)V"⟩, 28) := ⟨⟨by decide +kernel, by decide +kernel⟩, List.mem_of_getElem? (i := 645) (by decide +kernel), List.mem_of_getElem? (i := 758) (by decide +kernel), List.mem_of_getElem? (i := 759) (by decide +kernel)⟩
theorem lw_p22 : lw_okq (⟨"SurveyStoreModel", "isBranch", "(I)Z"⟩, 28) := ⟨⟨by decide +kernel, by decide +kernel⟩, List.mem_of_getElem? (i := 645) (by decide +kernel), List.mem_of_getElem? (i := 766) (by decide +kernel), List.mem_of_getElem? (i := 767) (by decide +kernel)⟩
theorem lw_p23 : lw_okq (⟨"SurveyStoreModel", "fails", "(Z)Z"⟩, 28) := ⟨⟨by decide +kernel, by decide +kernel⟩, List.mem_of_getElem? (i := 645) (by decide +kernel), List.mem_of_getElem? (i := 783) (by decide +kernel), List.mem_of_getElem? (i := 784) (by decide +kernel)⟩
theorem lw_p24 : lw_okq (⟨"SurveyStoreModel", "give", "(III)V"⟩, 28) := ⟨⟨by decide +kernel, by decide +kernel⟩, List.mem_of_getElem? (i := 645) (by decide +kernel), List.mem_of_getElem? (i := 790) (by decide +kernel), List.mem_of_getElem? (i := 791) (by decide +kernel)⟩
theorem lw_p25 : lw_okq (⟨"SurveyStoreModel", "meets", "(IIII)Z"⟩, 28) := ⟨⟨by decide +kernel, by decide +kernel⟩, List.mem_of_getElem? (i := 645) (by decide +kernel), List.mem_of_getElem? (i := 803) (by decide +kernel), List.mem_of_getElem? (i := 804) (by decide +kernel)⟩
theorem lw_p26 : lw_okq (⟨"SurveyStoreModel", "isChanged", "(I)Z"⟩, 28) := ⟨⟨by decide +kernel, by decide +kernel⟩, List.mem_of_getElem? (i := 645) (by decide +kernel), List.mem_of_getElem? (i := 827) (by decide +kernel), List.mem_of_getElem? (i := 828) (by decide +kernel)⟩
theorem lw_p27 : lw_okq (⟨"SurveyStoreModel", "unsettled", "(I)I"⟩, 28) := ⟨⟨by decide +kernel, by decide +kernel⟩, List.mem_of_getElem? (i := 645) (by decide +kernel), List.mem_of_getElem? (i := 831) (by decide +kernel), List.mem_of_getElem? (i := 832) (by decide +kernel)⟩
theorem lw_p28 : lw_okq (⟨"SurveyStoreModel", "ancestors", "(I)I"⟩, 28) := ⟨⟨by decide +kernel, by decide +kernel⟩, List.mem_of_getElem? (i := 645) (by decide +kernel), List.mem_of_getElem? (i := 839) (by decide +kernel), List.mem_of_getElem? (i := 840) (by decide +kernel)⟩
theorem lw_p29 : lw_okq (⟨"SurveyStoreModel", "base", "(II)V"⟩, 28) := ⟨⟨by decide +kernel, by decide +kernel⟩, List.mem_of_getElem? (i := 645) (by decide +kernel), List.mem_of_getElem? (i := 843) (by decide +kernel), List.mem_of_getElem? (i := 844) (by decide +kernel)⟩
theorem lw_p30 : lw_okq (⟨"SurveyStoreModel", "beginBase", "(III)V"⟩, 28) := ⟨⟨by decide +kernel, by decide +kernel⟩, List.mem_of_getElem? (i := 645) (by decide +kernel), List.mem_of_getElem? (i := 847) (by decide +kernel), List.mem_of_getElem? (i := 848) (by decide +kernel)⟩
theorem lw_p31 : lw_okq (⟨"SurveyStoreModel", "nearestOf", "(II)I"⟩, 28) := ⟨⟨by decide +kernel, by decide +kernel⟩, List.mem_of_getElem? (i := 645) (by decide +kernel), List.mem_of_getElem? (i := 851) (by decide +kernel), List.mem_of_getElem? (i := 852) (by decide +kernel)⟩
def lw_privs_2 : List (MethodName × Nat) := [(⟨"SurveyStore", "baseOf", "(III)LSurveyStore$BaseRow;"⟩, 14), (⟨"SurveyStore", "baseRowAt", "(I)LSurveyStore$BaseRow;"⟩, 14), (⟨"SurveyStore", "joinBase", "(LSurveyStore$BaseRow;III)V"⟩, 14), (⟨"SurveyStore", "mergeCells", "([J[J[ILSurveyStore$Conflicts;)V"⟩, 14), (⟨"SurveyStoreModel", "isCommit", "(I)Z"⟩, 28), (⟨"SurveyStoreModel", "become", "(II)V"⟩, 28), (⟨"SurveyStoreModel", "isBranch", "(I)Z"⟩, 28), (⟨"SurveyStoreModel", "fails", "(Z)Z"⟩, 28), (⟨"SurveyStoreModel", "give", "(III)V"⟩, 28), (⟨"SurveyStoreModel", "meets", "(IIII)Z"⟩, 28), (⟨"SurveyStoreModel", "isChanged", "(I)Z"⟩, 28), (⟨"SurveyStoreModel", "unsettled", "(I)I"⟩, 28), (⟨"SurveyStoreModel", "ancestors", "(I)I"⟩, 28), (⟨"SurveyStoreModel", "base", "(II)V"⟩, 28), (⟨"SurveyStoreModel", "beginBase", "(III)V"⟩, 28), (⟨"SurveyStoreModel", "nearestOf", "(II)I"⟩, 28)]
theorem lw_r2 : ∀ q ∈ lw_privs_2, lw_okq q := List.forall_mem_cons.mpr ⟨lw_p16, List.forall_mem_cons.mpr ⟨lw_p17, List.forall_mem_cons.mpr ⟨lw_p18, List.forall_mem_cons.mpr ⟨lw_p19, List.forall_mem_cons.mpr ⟨lw_p20, List.forall_mem_cons.mpr ⟨lw_p21, List.forall_mem_cons.mpr ⟨lw_p22, List.forall_mem_cons.mpr ⟨lw_p23, List.forall_mem_cons.mpr ⟨lw_p24, List.forall_mem_cons.mpr ⟨lw_p25, List.forall_mem_cons.mpr ⟨lw_p26, List.forall_mem_cons.mpr ⟨lw_p27, List.forall_mem_cons.mpr ⟨lw_p28, List.forall_mem_cons.mpr ⟨lw_p29, List.forall_mem_cons.mpr ⟨lw_p30, List.forall_mem_cons.mpr ⟨lw_p31, fun _ h => absurd h List.not_mem_nil⟩⟩⟩⟩⟩⟩⟩⟩⟩⟩⟩⟩⟩⟩⟩⟩
theorem lw_p32 : lw_okq (⟨"SurveyStoreModel", "joinBase", "(II)V"⟩, 28) := ⟨⟨by decide +kernel, by decide +kernel⟩, List.mem_of_getElem? (i := 645) (by decide +kernel), List.mem_of_getElem? (i := 858) (by decide +kernel), List.mem_of_getElem? (i := 859) (by decide +kernel)⟩
theorem lw_p33 : lw_okq (⟨"SurveyStoreModel", "madeIn", "(I)I"⟩, 28) := ⟨⟨by decide +kernel, by decide +kernel⟩, List.mem_of_getElem? (i := 645) (by decide +kernel), List.mem_of_getElem? (i := 862) (by decide +kernel), List.mem_of_getElem? (i := 863) (by decide +kernel)⟩
theorem lw_p34 : lw_okq (⟨"SurveyStoreModel", "note", "(IIIII)V"⟩, 28) := ⟨⟨by decide +kernel, by decide +kernel⟩, List.mem_of_getElem? (i := 645) (by decide +kernel), List.mem_of_getElem? (i := 866) (by decide +kernel), List.mem_of_getElem? (i := 867) (by decide +kernel)⟩
theorem lw_p35 : lw_okq (⟨"SurveyStoreModel", "isConflict", "(II)Z"⟩, 28) := ⟨⟨by decide +kernel, by decide +kernel⟩, List.mem_of_getElem? (i := 645) (by decide +kernel), List.mem_of_getElem? (i := 874) (by decide +kernel), List.mem_of_getElem? (i := 875) (by decide +kernel)⟩
theorem lw_p36 : lw_okq (⟨"SurveyStoreModel", "isCell", "(IIII)Z"⟩, 28) := ⟨⟨by decide +kernel, by decide +kernel⟩, List.mem_of_getElem? (i := 645) (by decide +kernel), List.mem_of_getElem? (i := 886) (by decide +kernel), List.mem_of_getElem? (i := 887) (by decide +kernel)⟩
theorem lw_p37 : lw_okq (⟨"SurveyStoreModel", "isPlace", "(I)Z"⟩, 28) := ⟨⟨by decide +kernel, by decide +kernel⟩, List.mem_of_getElem? (i := 645) (by decide +kernel), List.mem_of_getElem? (i := 890) (by decide +kernel), List.mem_of_getElem? (i := 891) (by decide +kernel)⟩
theorem lw_p38 : lw_okq (⟨"SurveyStoreModel", "isNew", "(I)Z"⟩, 28) := ⟨⟨by decide +kernel, by decide +kernel⟩, List.mem_of_getElem? (i := 645) (by decide +kernel), List.mem_of_getElem? (i := 922) (by decide +kernel), List.mem_of_getElem? (i := 923) (by decide +kernel)⟩
theorem lw_p39 : lw_okq (⟨"SurveyStoreModel", "sameBlock", "(II)Z"⟩, 28) := ⟨⟨by decide +kernel, by decide +kernel⟩, List.mem_of_getElem? (i := 645) (by decide +kernel), List.mem_of_getElem? (i := 926) (by decide +kernel), List.mem_of_getElem? (i := 927) (by decide +kernel)⟩
def lw_privs_3 : List (MethodName × Nat) := [(⟨"SurveyStoreModel", "joinBase", "(II)V"⟩, 28), (⟨"SurveyStoreModel", "madeIn", "(I)I"⟩, 28), (⟨"SurveyStoreModel", "note", "(IIIII)V"⟩, 28), (⟨"SurveyStoreModel", "isConflict", "(II)Z"⟩, 28), (⟨"SurveyStoreModel", "isCell", "(IIII)Z"⟩, 28), (⟨"SurveyStoreModel", "isPlace", "(I)Z"⟩, 28), (⟨"SurveyStoreModel", "isNew", "(I)Z"⟩, 28), (⟨"SurveyStoreModel", "sameBlock", "(II)Z"⟩, 28)]
theorem lw_r3 : ∀ q ∈ lw_privs_3, lw_okq q := List.forall_mem_cons.mpr ⟨lw_p32, List.forall_mem_cons.mpr ⟨lw_p33, List.forall_mem_cons.mpr ⟨lw_p34, List.forall_mem_cons.mpr ⟨lw_p35, List.forall_mem_cons.mpr ⟨lw_p36, List.forall_mem_cons.mpr ⟨lw_p37, List.forall_mem_cons.mpr ⟨lw_p38, List.forall_mem_cons.mpr ⟨lw_p39, fun _ h => absurd h List.not_mem_nil⟩⟩⟩⟩⟩⟩⟩⟩
def lw_privs : List (MethodName × Nat) := lw_privs_1 ++ (lw_privs_2 ++ (lw_privs_3))
def lw_tbl : List Cond := k2_sels lw_privs ++ tables_1
theorem lw_privs_ok : ∀ q ∈ lw_privs, lw_okq q := by
  show ∀ q ∈ lw_privs_1 ++ (lw_privs_2 ++ (lw_privs_3)), lw_okq q
  exact List.forall_mem_append.mpr ⟨lw_r1, List.forall_mem_append.mpr ⟨lw_r2, lw_r3⟩⟩
end
section
def zNar : List Cond := [.isRef (.static "java/lang/Throwable" "UNASSIGNED_STACK" "[Ljava/lang/StackTraceElement;"), .isRef (.static "java/lang/Throwable" "SUPPRESSED_SENTINEL" "Ljava/util/List;"), .not (.castable "java/lang/IllegalStateException" "java/lang/IllegalArgumentException")]
def zTW : List Cond := lw_tbl ++ zNar
theorem zinT {w : Cond} (h : w ∈ tables_1) : w ∈ zTW := List.mem_append_left _ (List.mem_append_right _ h)
theorem zin1 {w : Cond} (h : w ∈ tables_1_1) : w ∈ zTW := zinT (List.mem_append_left _ (h))
theorem zin2 {w : Cond} (h : w ∈ tables_1_2) : w ∈ zTW := zinT (List.mem_append_right _ (List.mem_append_left _ (h)))
theorem zin3 {w : Cond} (h : w ∈ tables_1_3) : w ∈ zTW := zinT (List.mem_append_right _ (List.mem_append_right _ (List.mem_append_left _ (h))))
theorem zin4 {w : Cond} (h : w ∈ tables_1_4) : w ∈ zTW := zinT (List.mem_append_right _ (List.mem_append_right _ (List.mem_append_right _ (h))))
theorem qn0 : zNar.getD 0 (.initialized "") ∈ zTW := List.mem_append_right _ (List.mem_of_getElem? (i := 0) rfl)
theorem qn1 : zNar.getD 1 (.initialized "") ∈ zTW := List.mem_append_right _ (List.mem_of_getElem? (i := 1) rfl)
theorem qn2 : zNar.getD 2 (.initialized "") ∈ zTW := List.mem_append_right _ (List.mem_of_getElem? (i := 2) rfl)
theorem q0 : (Jvm.Cond.initialized "SurveyStoreLaw") ∈ zTW := zin1 (List.mem_of_getElem? (i := 0) rfl)
theorem q1 : (Jvm.Cond.initialized "SurveyStore") ∈ zTW := zin1 (List.mem_of_getElem? (i := 1) rfl)
theorem q2 : (Jvm.Cond.initialized "java/util/Arrays") ∈ zTW := zin1 (List.mem_of_getElem? (i := 2) rfl)
theorem q3 : (Jvm.Cond.initialized "SurveyStore$Commit") ∈ zTW := zin1 (List.mem_of_getElem? (i := 3) rfl)
theorem q4 : (Jvm.Cond.initialized "SurveyStore$Branch") ∈ zTW := zin1 (List.mem_of_getElem? (i := 4) rfl)
theorem q5 : (Jvm.Cond.initialized "java/lang/System") ∈ zTW := zin1 (List.mem_of_getElem? (i := 5) rfl)
theorem q6 : (Jvm.Cond.initialized "SurveyStoreModel") ∈ zTW := zin1 (List.mem_of_getElem? (i := 6) rfl)
theorem q7 : (Jvm.Cond.initialized "java/lang/Throwable") ∈ zTW := zin1 (List.mem_of_getElem? (i := 7) rfl)
theorem q8 : (Jvm.Cond.initialized "java/lang/Exception") ∈ zTW := zin1 (List.mem_of_getElem? (i := 8) rfl)
theorem q9 : (Jvm.Cond.initialized "java/lang/RuntimeException") ∈ zTW := zin1 (List.mem_of_getElem? (i := 9) rfl)
theorem q10 : (Jvm.Cond.initialized "java/lang/IllegalArgumentException") ∈ zTW := zin1 (List.mem_of_getElem? (i := 10) rfl)
theorem q11 : (Jvm.Cond.initialized "java/lang/IllegalStateException") ∈ zTW := zin1 (List.mem_of_getElem? (i := 11) rfl)
theorem q12 : (Jvm.Cond.initialized "java/lang/Math") ∈ zTW := zin1 (List.mem_of_getElem? (i := 12) rfl)
theorem q13 : (Jvm.Cond.initialized "SurveyStore$BaseRow") ∈ zTW := zin1 (List.mem_of_getElem? (i := 13) rfl)
theorem q14 : (Jvm.Cond.initialized "SurveyStore$Conflicts") ∈ zTW := zin1 (List.mem_of_getElem? (i := 14) rfl)
theorem q15 : (Jvm.Cond.initialized "SurveyStore$BlockTable") ∈ zTW := zin1 (List.mem_of_getElem? (i := 15) rfl)
theorem q16 : (Jvm.Cond.classLink "SurveyStoreLaw" (8 : Nat) "SurveyStore") ∈ zTW := zin1 (List.mem_of_getElem? (i := 16) rfl)
theorem q17 : (Jvm.Cond.instantiable "SurveyStore" (14 : Nat)) ∈ zTW := zin1 (List.mem_of_getElem? (i := 17) rfl)
theorem q18 : (Jvm.Cond.methodLink "SurveyStoreLaw" (50 : Nat) ({ cls := "SurveyStore", name := "<init>", desc := "()V" } : Jvm.MethodName)) ∈ zTW := zin1 (List.mem_of_getElem? (i := 18) rfl)
theorem q19 : (Jvm.Cond.instanceMethod ({ cls := "SurveyStore", name := "<init>", desc := "()V" } : Jvm.MethodName)) ∈ zTW := zin1 (List.mem_of_getElem? (i := 19) rfl)
theorem q20 : (Jvm.Cond.code ({ cls := "SurveyStore", name := "<init>", desc := "()V" } : Jvm.MethodName) prog_1_method_1_code (2 : Nat) (Option.none : Option Jvm.ClassFile.FieldType)) ∈ zTW := zin1 (List.mem_of_getElem? (i := 20) rfl)
theorem q21 : (Jvm.Cond.methodLink "SurveyStore" (3 : Nat) ({ cls := "java/lang/Object", name := "<init>", desc := "()V" } : Jvm.MethodName)) ∈ zTW := zin1 (List.mem_of_getElem? (i := 21) rfl)
theorem q22 : (Jvm.Cond.instanceMethod ({ cls := "java/lang/Object", name := "<init>", desc := "()V" } : Jvm.MethodName)) ∈ zTW := zin1 (List.mem_of_getElem? (i := 22) rfl)
theorem q23 : (Jvm.Cond.code ({ cls := "java/lang/Object", name := "<init>", desc := "()V" } : Jvm.MethodName) object_method_1_code (1 : Nat) (Option.none : Option Jvm.ClassFile.FieldType)) ∈ zTW := zin1 (List.mem_of_getElem? (i := 23) rfl)
theorem q24 : (Jvm.Cond.classLink "SurveyStore" (13 : Nat) "SurveyStore$Commit") ∈ zTW := zin1 (List.mem_of_getElem? (i := 24) rfl)
theorem q25 : (Jvm.Cond.arrayOver (Jvm.ClassFile.FieldType.object "SurveyStore$Commit")) ∈ zTW := zin1 (List.mem_of_getElem? (i := 25) rfl)
theorem q26 : (Jvm.Cond.classLink "SurveyStore" (19 : Nat) "SurveyStore$Branch") ∈ zTW := zin1 (List.mem_of_getElem? (i := 26) rfl)
theorem q27 : (Jvm.Cond.arrayOver (Jvm.ClassFile.FieldType.object "SurveyStore$Branch")) ∈ zTW := zin1 (List.mem_of_getElem? (i := 27) rfl)
theorem q28 : (Jvm.Cond.classLink "SurveyStore" (37 : Nat) "SurveyStore$BaseRow") ∈ zTW := zin1 (List.mem_of_getElem? (i := 28) rfl)
theorem q29 : (Jvm.Cond.arrayOver (Jvm.ClassFile.FieldType.object "SurveyStore$BaseRow")) ∈ zTW := zin1 (List.mem_of_getElem? (i := 29) rfl)
theorem q30 : (Jvm.Cond.constantLong "SurveyStore" (43 : Nat) (-9223372036854775808 : Int64)) ∈ zTW := zin1 (List.mem_of_getElem? (i := 30) rfl)
theorem q31 : (Jvm.Cond.methodLink "SurveyStore" (45 : Nat) ({ cls := "java/util/Arrays", name := "fill", desc := "([JJ)V" } : Jvm.MethodName)) ∈ zTW := zin1 (List.mem_of_getElem? (i := 31) rfl)
theorem q32 : (Jvm.Cond.static ({ cls := "java/util/Arrays", name := "fill", desc := "([JJ)V" } : Jvm.MethodName)) ∈ zTW := zin1 (List.mem_of_getElem? (i := 32) rfl)
theorem q33 : (Jvm.Cond.code ({ cls := "java/util/Arrays", name := "fill", desc := "([JJ)V" } : Jvm.MethodName) prog_17_method_101_code (5 : Nat) (Option.none : Option Jvm.ClassFile.FieldType)) ∈ zTW := zin1 (List.mem_of_getElem? (i := 33) rfl)
theorem q34 : (Jvm.Cond.instantiable "SurveyStore$Commit" (4 : Nat)) ∈ zTW := zin1 (List.mem_of_getElem? (i := 34) rfl)
theorem q35 : (Jvm.Cond.methodLink "SurveyStore" (51 : Nat) ({ cls := "SurveyStore$Commit", name := "<init>", desc := "(III[J)V" } : Jvm.MethodName)) ∈ zTW := zin1 (List.mem_of_getElem? (i := 35) rfl)
theorem q36 : (Jvm.Cond.instanceMethod ({ cls := "SurveyStore$Commit", name := "<init>", desc := "(III[J)V" } : Jvm.MethodName)) ∈ zTW := zin1 (List.mem_of_getElem? (i := 36) rfl)
theorem q37 : (Jvm.Cond.code ({ cls := "SurveyStore$Commit", name := "<init>", desc := "(III[J)V" } : Jvm.MethodName) prog_5_method_1_code (5 : Nat) (Option.none : Option Jvm.ClassFile.FieldType)) ∈ zTW := zin1 (List.mem_of_getElem? (i := 37) rfl)
theorem q38 : (Jvm.Cond.methodLink "SurveyStore$Commit" (1 : Nat) ({ cls := "java/lang/Object", name := "<init>", desc := "()V" } : Jvm.MethodName)) ∈ zTW := zin1 (List.mem_of_getElem? (i := 38) rfl)
theorem q39 : (Jvm.Cond.fieldLink "SurveyStore$Commit" (7 : Nat) "SurveyStore$Commit" "firstParent" "I") ∈ zTW := zin1 (List.mem_of_getElem? (i := 39) rfl)
theorem q40 : (Jvm.Cond.fieldLink "SurveyStore" (335 : Nat) "SurveyStore$Commit" "firstParent" "I") ∈ zTW := zin1 (List.mem_of_getElem? (i := 40) rfl)
theorem q41 : (Jvm.Cond.fieldLink "SurveyStore$Commit" (13 : Nat) "SurveyStore$Commit" "secondParent" "I") ∈ zTW := zin1 (List.mem_of_getElem? (i := 41) rfl)
theorem q42 : (Jvm.Cond.fieldLink "SurveyStore" (338 : Nat) "SurveyStore$Commit" "secondParent" "I") ∈ zTW := zin1 (List.mem_of_getElem? (i := 42) rfl)
theorem q43 : (Jvm.Cond.fieldLink "SurveyStore$Commit" (16 : Nat) "SurveyStore$Commit" "ancestors" "I") ∈ zTW := zin1 (List.mem_of_getElem? (i := 43) rfl)
theorem q44 : (Jvm.Cond.fieldLink "SurveyStore" (304 : Nat) "SurveyStore$Commit" "ancestors" "I") ∈ zTW := zin1 (List.mem_of_getElem? (i := 44) rfl)
theorem q45 : (Jvm.Cond.fieldLink "SurveyStore$Commit" (19 : Nat) "SurveyStore$Commit" "cells" "[J") ∈ zTW := zin1 (List.mem_of_getElem? (i := 45) rfl)
theorem q46 : (Jvm.Cond.fieldLink "SurveyStore" (91 : Nat) "SurveyStore$Commit" "cells" "[J") ∈ zTW := zin1 (List.mem_of_getElem? (i := 46) rfl)
theorem q47 : (Jvm.Cond.laysFinal "SurveyStore$Commit" "SurveyStore$Commit" "firstParent" "I") ∈ zTW := zin1 (List.mem_of_getElem? (i := 47) rfl)
theorem q48 : (Jvm.Cond.soleField "SurveyStore$Commit" "firstParent") ∈ zTW := zin1 (List.mem_of_getElem? (i := 48) rfl)
theorem q49 : (Jvm.Cond.laysFinal "SurveyStore$Commit" "SurveyStore$Commit" "secondParent" "I") ∈ zTW := zin1 (List.mem_of_getElem? (i := 49) rfl)
theorem q50 : (Jvm.Cond.soleField "SurveyStore$Commit" "secondParent") ∈ zTW := zin1 (List.mem_of_getElem? (i := 50) rfl)
theorem q51 : (Jvm.Cond.laysFinal "SurveyStore$Commit" "SurveyStore$Commit" "ancestors" "I") ∈ zTW := zin1 (List.mem_of_getElem? (i := 51) rfl)
theorem q52 : (Jvm.Cond.soleField "SurveyStore$Commit" "ancestors") ∈ zTW := zin1 (List.mem_of_getElem? (i := 52) rfl)
theorem q53 : (Jvm.Cond.laysFinal "SurveyStore$Commit" "SurveyStore$Commit" "cells" "[J") ∈ zTW := zin1 (List.mem_of_getElem? (i := 53) rfl)
theorem q54 : (Jvm.Cond.soleField "SurveyStore$Commit" "cells") ∈ zTW := zin1 (List.mem_of_getElem? (i := 54) rfl)
theorem q55 : (Jvm.Cond.superclass "SurveyStore$Commit" "java/lang/Object") ∈ zTW := zin1 (List.mem_of_getElem? (i := 55) rfl)
theorem q56 : (Jvm.Cond.arrayClass Jvm.ClassFile.FieldType.int) ∈ zTW := zin1 (List.mem_of_getElem? (i := 56) rfl)
theorem q57 : (Jvm.Cond.arrayClass Jvm.ClassFile.FieldType.long) ∈ zTW := zin1 (List.mem_of_getElem? (i := 57) rfl)
theorem q58 : (Jvm.Cond.instantiable "SurveyStore$Branch" (5 : Nat)) ∈ zTW := zin1 (List.mem_of_getElem? (i := 58) rfl)
theorem q59 : (Jvm.Cond.methodLinkNest "SurveyStore" (58 : Nat) ({ cls := "SurveyStore$Branch", name := "<init>", desc := "()V" } : Jvm.MethodName) "SurveyStore") ∈ zTW := zin1 (List.mem_of_getElem? (i := 59) rfl)
theorem q60 : (Jvm.Cond.instanceMethod ({ cls := "SurveyStore$Branch", name := "<init>", desc := "()V" } : Jvm.MethodName)) ∈ zTW := zin1 (List.mem_of_getElem? (i := 60) rfl)
theorem q61 : (Jvm.Cond.code ({ cls := "SurveyStore$Branch", name := "<init>", desc := "()V" } : Jvm.MethodName) prog_4_method_1_code (1 : Nat) (Option.none : Option Jvm.ClassFile.FieldType)) ∈ zTW := zin1 (List.mem_of_getElem? (i := 61) rfl)
theorem q62 : (Jvm.Cond.methodLink "SurveyStore$Branch" (3 : Nat) ({ cls := "java/lang/Object", name := "<init>", desc := "()V" } : Jvm.MethodName)) ∈ zTW := zin1 (List.mem_of_getElem? (i := 62) rfl)
theorem q63 : (Jvm.Cond.fieldLink "SurveyStore$Branch" (9 : Nat) "SurveyStore$Branch" "cells" "[J") ∈ zTW := zin1 (List.mem_of_getElem? (i := 63) rfl)
theorem q64 : (Jvm.Cond.fieldLink "SurveyStore" (132 : Nat) "SurveyStore$Branch" "cells" "[J") ∈ zTW := zin1 (List.mem_of_getElem? (i := 64) rfl)
theorem q65 : (Jvm.Cond.fieldLink "SurveyStore$Branch" (21 : Nat) "SurveyStore$Branch" "there" "Z") ∈ zTW := zin1 (List.mem_of_getElem? (i := 65) rfl)
theorem q66 : (Jvm.Cond.fieldLink "SurveyStore" (95 : Nat) "SurveyStore$Branch" "there" "Z") ∈ zTW := zin1 (List.mem_of_getElem? (i := 66) rfl)
theorem q67 : (Jvm.Cond.fieldLink "SurveyStore$Branch" (29 : Nat) "SurveyStore$Branch" "head" "I") ∈ zTW := zin1 (List.mem_of_getElem? (i := 67) rfl)
theorem q68 : (Jvm.Cond.fieldLink "SurveyStore" (169 : Nat) "SurveyStore$Branch" "head" "I") ∈ zTW := zin1 (List.mem_of_getElem? (i := 68) rfl)
theorem q69 : (Jvm.Cond.fieldLink "SurveyStore$Branch" (33 : Nat) "SurveyStore$Branch" "merging" "I") ∈ zTW := zin1 (List.mem_of_getElem? (i := 69) rfl)
theorem q70 : (Jvm.Cond.fieldLink "SurveyStore" (175 : Nat) "SurveyStore$Branch" "merging" "I") ∈ zTW := zin1 (List.mem_of_getElem? (i := 70) rfl)
theorem q71 : (Jvm.Cond.fieldLink "SurveyStore$Branch" (36 : Nat) "SurveyStore$Branch" "conflicts" "LSurveyStore$Conflicts;") ∈ zTW := zin1 (List.mem_of_getElem? (i := 71) rfl)
theorem q72 : (Jvm.Cond.fieldLink "SurveyStore" (209 : Nat) "SurveyStore$Branch" "conflicts" "LSurveyStore$Conflicts;") ∈ zTW := zin1 (List.mem_of_getElem? (i := 72) rfl)
theorem q73 : (Jvm.Cond.laysFinal "SurveyStore$Branch" "SurveyStore$Branch" "cells" "[J") ∈ zTW := zin1 (List.mem_of_getElem? (i := 73) rfl)
theorem q74 : (Jvm.Cond.soleField "SurveyStore$Branch" "cells") ∈ zTW := zin1 (List.mem_of_getElem? (i := 74) rfl)
theorem q75 : (Jvm.Cond.lays "SurveyStore$Branch" "SurveyStore$Branch" "there" "Z") ∈ zTW := zin1 (List.mem_of_getElem? (i := 75) rfl)
theorem q76 : (Jvm.Cond.soleField "SurveyStore$Branch" "there") ∈ zTW := zin1 (List.mem_of_getElem? (i := 76) rfl)
theorem q77 : (Jvm.Cond.lays "SurveyStore$Branch" "SurveyStore$Branch" "head" "I") ∈ zTW := zin1 (List.mem_of_getElem? (i := 77) rfl)
theorem q78 : (Jvm.Cond.soleField "SurveyStore$Branch" "head") ∈ zTW := zin1 (List.mem_of_getElem? (i := 78) rfl)
theorem q79 : (Jvm.Cond.lays "SurveyStore$Branch" "SurveyStore$Branch" "merging" "I") ∈ zTW := zin1 (List.mem_of_getElem? (i := 79) rfl)
theorem q80 : (Jvm.Cond.soleField "SurveyStore$Branch" "merging") ∈ zTW := zin1 (List.mem_of_getElem? (i := 80) rfl)
theorem q81 : (Jvm.Cond.lays "SurveyStore$Branch" "SurveyStore$Branch" "conflicts" "LSurveyStore$Conflicts;") ∈ zTW := zin1 (List.mem_of_getElem? (i := 81) rfl)
theorem q82 : (Jvm.Cond.soleField "SurveyStore$Branch" "conflicts") ∈ zTW := zin1 (List.mem_of_getElem? (i := 82) rfl)
theorem q83 : (Jvm.Cond.superclass "SurveyStore$Branch" "java/lang/Object") ∈ zTW := zin1 (List.mem_of_getElem? (i := 83) rfl)
theorem q84 : (Jvm.Cond.methodLink "SurveyStore" (59 : Nat) ({ cls := "SurveyStore$Branch", name := "startAt", desc := "(I[J)V" } : Jvm.MethodName)) ∈ zTW := zin1 (List.mem_of_getElem? (i := 84) rfl)
theorem q85 : (Jvm.Cond.instanceMethod ({ cls := "SurveyStore$Branch", name := "startAt", desc := "(I[J)V" } : Jvm.MethodName)) ∈ zTW := zin1 (List.mem_of_getElem? (i := 85) rfl)
theorem q86 : (Jvm.Cond.selects "SurveyStore$Branch" ({ cls := "SurveyStore$Branch", name := "startAt", desc := "(I[J)V" } : Jvm.MethodName) ({ cls := "SurveyStore$Branch", name := "startAt", desc := "(I[J)V" } : Jvm.MethodName)) ∈ zTW := zin1 (List.mem_of_getElem? (i := 86) rfl)
theorem q87 : (Jvm.Cond.code ({ cls := "SurveyStore$Branch", name := "startAt", desc := "(I[J)V" } : Jvm.MethodName) prog_4_method_2_code (3 : Nat) (Option.none : Option Jvm.ClassFile.FieldType)) ∈ zTW := zin1 (List.mem_of_getElem? (i := 87) rfl)
theorem q88 : (Jvm.Cond.methodLink "SurveyStore$Branch" (15 : Nat) ({ cls := "java/lang/System", name := "arraycopy", desc := "(Ljava/lang/Object;ILjava/lang/Object;II)V" } : Jvm.MethodName)) ∈ zTW := zin1 (List.mem_of_getElem? (i := 88) rfl)
theorem q89 : (Jvm.Cond.static ({ cls := "java/lang/System", name := "arraycopy", desc := "(Ljava/lang/Object;ILjava/lang/Object;II)V" } : Jvm.MethodName)) ∈ zTW := zin1 (List.mem_of_getElem? (i := 89) rfl)
theorem q90 : (Jvm.Cond.native ({ cls := "java/lang/System", name := "arraycopy", desc := "(Ljava/lang/Object;ILjava/lang/Object;II)V" } : Jvm.MethodName)) ∈ zTW := zin1 (List.mem_of_getElem? (i := 90) rfl)
theorem q91 : (Jvm.Cond.methodLink "SurveyStore$Branch" (25 : Nat) ({ cls := "SurveyStore$Branch", name := "restAt", desc := "(I)V" } : Jvm.MethodName)) ∈ zTW := zin1 (List.mem_of_getElem? (i := 91) rfl)
theorem q92 : (Jvm.Cond.instanceMethod ({ cls := "SurveyStore$Branch", name := "restAt", desc := "(I)V" } : Jvm.MethodName)) ∈ zTW := zin1 (List.mem_of_getElem? (i := 92) rfl)
theorem q93 : (Jvm.Cond.selects "SurveyStore$Branch" ({ cls := "SurveyStore$Branch", name := "restAt", desc := "(I)V" } : Jvm.MethodName) ({ cls := "SurveyStore$Branch", name := "restAt", desc := "(I)V" } : Jvm.MethodName)) ∈ zTW := zin1 (List.mem_of_getElem? (i := 93) rfl)
theorem q94 : (Jvm.Cond.code ({ cls := "SurveyStore$Branch", name := "restAt", desc := "(I)V" } : Jvm.MethodName) prog_4_method_3_code (2 : Nat) (Option.none : Option Jvm.ClassFile.FieldType)) ∈ zTW := zin1 (List.mem_of_getElem? (i := 94) rfl)
theorem q95 : (Jvm.Cond.methodLink "SurveyStore$Branch" (40 : Nat) ({ cls := "SurveyStore$Conflicts", name := "forget", desc := "()V" } : Jvm.MethodName)) ∈ zTW := zin1 (List.mem_of_getElem? (i := 95) rfl)
theorem q96 : (Jvm.Cond.instanceMethod ({ cls := "SurveyStore$Conflicts", name := "forget", desc := "()V" } : Jvm.MethodName)) ∈ zTW := zin1 (List.mem_of_getElem? (i := 96) rfl)
theorem q97 : (Jvm.Cond.selects "SurveyStore$Conflicts" ({ cls := "SurveyStore$Conflicts", name := "forget", desc := "()V" } : Jvm.MethodName) ({ cls := "SurveyStore$Conflicts", name := "forget", desc := "()V" } : Jvm.MethodName)) ∈ zTW := zin1 (List.mem_of_getElem? (i := 97) rfl)
theorem q98 : (Jvm.Cond.code ({ cls := "SurveyStore$Conflicts", name := "forget", desc := "()V" } : Jvm.MethodName) prog_6_method_2_code (1 : Nat) (Option.none : Option Jvm.ClassFile.FieldType)) ∈ zTW := zin1 (List.mem_of_getElem? (i := 98) rfl)
theorem q99 : (Jvm.Cond.constant "SurveyStore" (69 : Nat) (-2147483648 : Int32)) ∈ zTW := zin1 (List.mem_of_getElem? (i := 99) rfl)
theorem q100 : (Jvm.Cond.methodLink "SurveyStore" (70 : Nat) ({ cls := "java/util/Arrays", name := "fill", desc := "([II)V" } : Jvm.MethodName)) ∈ zTW := zin1 (List.mem_of_getElem? (i := 100) rfl)
theorem q101 : (Jvm.Cond.static ({ cls := "java/util/Arrays", name := "fill", desc := "([II)V" } : Jvm.MethodName)) ∈ zTW := zin1 (List.mem_of_getElem? (i := 101) rfl)
theorem q102 : (Jvm.Cond.code ({ cls := "java/util/Arrays", name := "fill", desc := "([II)V" } : Jvm.MethodName) prog_17_method_103_code (4 : Nat) (Option.none : Option Jvm.ClassFile.FieldType)) ∈ zTW := zin1 (List.mem_of_getElem? (i := 102) rfl)
theorem q103 : (Jvm.Cond.fieldLink "SurveyStore" (9 : Nat) "SurveyStore" "kinds" "[I") ∈ zTW := zin1 (List.mem_of_getElem? (i := 103) rfl)
theorem q104 : (Jvm.Cond.fieldLink "SurveyStore" (15 : Nat) "SurveyStore" "commits" "[LSurveyStore$Commit;") ∈ zTW := zin1 (List.mem_of_getElem? (i := 104) rfl)
theorem q105 : (Jvm.Cond.fieldLink "SurveyStore" (54 : Nat) "SurveyStore" "made" "I") ∈ zTW := zin1 (List.mem_of_getElem? (i := 105) rfl)
theorem q106 : (Jvm.Cond.fieldLink "SurveyStore" (21 : Nat) "SurveyStore" "branches" "[LSurveyStore$Branch;") ∈ zTW := zin1 (List.mem_of_getElem? (i := 106) rfl)
theorem q107 : (Jvm.Cond.fieldLink "SurveyStore" (103 : Nat) "SurveyStore" "regionX" "I") ∈ zTW := zin1 (List.mem_of_getElem? (i := 107) rfl)
theorem q108 : (Jvm.Cond.fieldLink "SurveyStore" (106 : Nat) "SurveyStore" "regionY" "I") ∈ zTW := zin1 (List.mem_of_getElem? (i := 108) rfl)
theorem q109 : (Jvm.Cond.fieldLink "SurveyStore" (63 : Nat) "SurveyStore" "regionWidth" "I") ∈ zTW := zin1 (List.mem_of_getElem? (i := 109) rfl)
theorem q110 : (Jvm.Cond.fieldLink "SurveyStore" (66 : Nat) "SurveyStore" "regionHeight" "I") ∈ zTW := zin1 (List.mem_of_getElem? (i := 110) rfl)
theorem q111 : (Jvm.Cond.fieldLink "SurveyStore" (25 : Nat) "SurveyStore" "cornerX" "[I") ∈ zTW := zin1 (List.mem_of_getElem? (i := 111) rfl)
theorem q112 : (Jvm.Cond.fieldLink "SurveyStore" (28 : Nat) "SurveyStore" "cornerY" "[I") ∈ zTW := zin1 (List.mem_of_getElem? (i := 112) rfl)
theorem q113 : (Jvm.Cond.fieldLink "SurveyStore" (31 : Nat) "SurveyStore" "entryFrom" "[I") ∈ zTW := zin1 (List.mem_of_getElem? (i := 113) rfl)
theorem q114 : (Jvm.Cond.fieldLink "SurveyStore" (34 : Nat) "SurveyStore" "entryTo" "[I") ∈ zTW := zin1 (List.mem_of_getElem? (i := 114) rfl)
theorem q115 : (Jvm.Cond.fieldLink "SurveyStore" (39 : Nat) "SurveyStore" "baseRows" "[LSurveyStore$BaseRow;") ∈ zTW := zin1 (List.mem_of_getElem? (i := 115) rfl)
theorem q116 : (Jvm.Cond.fieldLink "SurveyStore" (274 : Nat) "SurveyStore" "blockTable" "LSurveyStore$BlockTable;") ∈ zTW := zin1 (List.mem_of_getElem? (i := 116) rfl)
theorem q117 : (Jvm.Cond.laysFinal "SurveyStore" "SurveyStore" "kinds" "[I") ∈ zTW := zin1 (List.mem_of_getElem? (i := 117) rfl)
theorem q118 : (Jvm.Cond.soleField "SurveyStore" "kinds") ∈ zTW := zin1 (List.mem_of_getElem? (i := 118) rfl)
theorem q119 : (Jvm.Cond.laysFinal "SurveyStore" "SurveyStore" "commits" "[LSurveyStore$Commit;") ∈ zTW := zin1 (List.mem_of_getElem? (i := 119) rfl)
theorem q120 : (Jvm.Cond.soleField "SurveyStore" "commits") ∈ zTW := zin1 (List.mem_of_getElem? (i := 120) rfl)
theorem q121 : (Jvm.Cond.lays "SurveyStore" "SurveyStore" "made" "I") ∈ zTW := zin1 (List.mem_of_getElem? (i := 121) rfl)
theorem q122 : (Jvm.Cond.soleField "SurveyStore" "made") ∈ zTW := zin1 (List.mem_of_getElem? (i := 122) rfl)
theorem q123 : (Jvm.Cond.laysFinal "SurveyStore" "SurveyStore" "branches" "[LSurveyStore$Branch;") ∈ zTW := zin1 (List.mem_of_getElem? (i := 123) rfl)
theorem q124 : (Jvm.Cond.soleField "SurveyStore" "branches") ∈ zTW := zin1 (List.mem_of_getElem? (i := 124) rfl)
theorem q125 : (Jvm.Cond.lays "SurveyStore" "SurveyStore" "regionX" "I") ∈ zTW := zin1 (List.mem_of_getElem? (i := 125) rfl)
theorem q126 : (Jvm.Cond.soleField "SurveyStore" "regionX") ∈ zTW := zin1 (List.mem_of_getElem? (i := 126) rfl)
theorem q127 : (Jvm.Cond.lays "SurveyStore" "SurveyStore" "regionY" "I") ∈ zTW := zin1 (List.mem_of_getElem? (i := 127) rfl)
theorem q128 : (Jvm.Cond.soleField "SurveyStore" "regionY") ∈ zTW := zin1 (List.mem_of_getElem? (i := 128) rfl)
theorem q129 : (Jvm.Cond.lays "SurveyStore" "SurveyStore" "regionWidth" "I") ∈ zTW := zin1 (List.mem_of_getElem? (i := 129) rfl)
theorem q130 : (Jvm.Cond.soleField "SurveyStore" "regionWidth") ∈ zTW := zin1 (List.mem_of_getElem? (i := 130) rfl)
theorem q131 : (Jvm.Cond.lays "SurveyStore" "SurveyStore" "regionHeight" "I") ∈ zTW := zin1 (List.mem_of_getElem? (i := 131) rfl)
theorem q132 : (Jvm.Cond.soleField "SurveyStore" "regionHeight") ∈ zTW := zin1 (List.mem_of_getElem? (i := 132) rfl)
theorem q133 : (Jvm.Cond.laysFinal "SurveyStore" "SurveyStore" "cornerX" "[I") ∈ zTW := zin1 (List.mem_of_getElem? (i := 133) rfl)
theorem q134 : (Jvm.Cond.soleField "SurveyStore" "cornerX") ∈ zTW := zin1 (List.mem_of_getElem? (i := 134) rfl)
theorem q135 : (Jvm.Cond.laysFinal "SurveyStore" "SurveyStore" "cornerY" "[I") ∈ zTW := zin1 (List.mem_of_getElem? (i := 135) rfl)
theorem q136 : (Jvm.Cond.soleField "SurveyStore" "cornerY") ∈ zTW := zin1 (List.mem_of_getElem? (i := 136) rfl)
theorem q137 : (Jvm.Cond.laysFinal "SurveyStore" "SurveyStore" "entryFrom" "[I") ∈ zTW := zin1 (List.mem_of_getElem? (i := 137) rfl)
theorem q138 : (Jvm.Cond.soleField "SurveyStore" "entryFrom") ∈ zTW := zin1 (List.mem_of_getElem? (i := 138) rfl)
theorem q139 : (Jvm.Cond.laysFinal "SurveyStore" "SurveyStore" "entryTo" "[I") ∈ zTW := zin1 (List.mem_of_getElem? (i := 139) rfl)
theorem q140 : (Jvm.Cond.soleField "SurveyStore" "entryTo") ∈ zTW := zin1 (List.mem_of_getElem? (i := 140) rfl)
theorem q141 : (Jvm.Cond.laysFinal "SurveyStore" "SurveyStore" "baseRows" "[LSurveyStore$BaseRow;") ∈ zTW := zin1 (List.mem_of_getElem? (i := 141) rfl)
theorem q142 : (Jvm.Cond.soleField "SurveyStore" "baseRows") ∈ zTW := zin1 (List.mem_of_getElem? (i := 142) rfl)
theorem q143 : (Jvm.Cond.lays "SurveyStore" "SurveyStore" "blockTable" "LSurveyStore$BlockTable;") ∈ zTW := zin1 (List.mem_of_getElem? (i := 143) rfl)
theorem q144 : (Jvm.Cond.soleField "SurveyStore" "blockTable") ∈ zTW := zin1 (List.mem_of_getElem? (i := 144) rfl)
theorem q145 : (Jvm.Cond.superclass "SurveyStore" "java/lang/Object") ∈ zTW := zin1 (List.mem_of_getElem? (i := 145) rfl)
theorem q146 : (Jvm.Cond.methodLink "SurveyStoreLaw" (54 : Nat) ({ cls := "SurveyStore", name := "kind", desc := "(II)Z" } : Jvm.MethodName)) ∈ zTW := zin1 (List.mem_of_getElem? (i := 146) rfl)
theorem q147 : (Jvm.Cond.instanceMethod ({ cls := "SurveyStore", name := "kind", desc := "(II)Z" } : Jvm.MethodName)) ∈ zTW := zin1 (List.mem_of_getElem? (i := 147) rfl)
theorem q148 : (Jvm.Cond.selects "SurveyStore" ({ cls := "SurveyStore", name := "kind", desc := "(II)Z" } : Jvm.MethodName) ({ cls := "SurveyStore", name := "kind", desc := "(II)Z" } : Jvm.MethodName)) ∈ zTW := zin1 (List.mem_of_getElem? (i := 148) rfl)
theorem q149 : (Jvm.Cond.code ({ cls := "SurveyStore", name := "kind", desc := "(II)Z" } : Jvm.MethodName) prog_1_method_2_code (3 : Nat) (Option.some Jvm.ClassFile.FieldType.boolean)) ∈ zTW := zin1 (List.mem_of_getElem? (i := 149) rfl)
theorem q150 : (Jvm.Cond.methodLink "SurveyStore" (73 : Nat) ({ cls := "SurveyStore", name := "isLayer", desc := "(I)Z" } : Jvm.MethodName)) ∈ zTW := zin1 (List.mem_of_getElem? (i := 150) rfl)
theorem q151 : (Jvm.Cond.static ({ cls := "SurveyStore", name := "isLayer", desc := "(I)Z" } : Jvm.MethodName)) ∈ zTW := zin1 (List.mem_of_getElem? (i := 151) rfl)
theorem q152 : (Jvm.Cond.code ({ cls := "SurveyStore", name := "isLayer", desc := "(I)Z" } : Jvm.MethodName) prog_1_method_25_code (1 : Nat) (Option.some Jvm.ClassFile.FieldType.boolean)) ∈ zTW := zin1 (List.mem_of_getElem? (i := 152) rfl)
theorem q153 : (Jvm.Cond.methodLink "SurveyStoreLaw" (69 : Nat) ({ cls := "SurveyStore", name := "drop", desc := "(I)Z" } : Jvm.MethodName)) ∈ zTW := zin1 (List.mem_of_getElem? (i := 153) rfl)
theorem q154 : (Jvm.Cond.instanceMethod ({ cls := "SurveyStore", name := "drop", desc := "(I)Z" } : Jvm.MethodName)) ∈ zTW := zin1 (List.mem_of_getElem? (i := 154) rfl)
theorem q155 : (Jvm.Cond.selects "SurveyStore" ({ cls := "SurveyStore", name := "drop", desc := "(I)Z" } : Jvm.MethodName) ({ cls := "SurveyStore", name := "drop", desc := "(I)Z" } : Jvm.MethodName)) ∈ zTW := zin1 (List.mem_of_getElem? (i := 155) rfl)
theorem q156 : (Jvm.Cond.code ({ cls := "SurveyStore", name := "drop", desc := "(I)Z" } : Jvm.MethodName) prog_1_method_4_code (3 : Nat) (Option.some Jvm.ClassFile.FieldType.boolean)) ∈ zTW := zin1 (List.mem_of_getElem? (i := 156) rfl)
theorem q157 : (Jvm.Cond.methodLink "SurveyStore" (84 : Nat) ({ cls := "SurveyStore", name := "branchAt", desc := "(I)LSurveyStore$Branch;" } : Jvm.MethodName)) ∈ zTW := zin1 (List.mem_of_getElem? (i := 157) rfl)
theorem q158 : (Jvm.Cond.privateMethod ({ cls := "SurveyStore", name := "branchAt", desc := "(I)LSurveyStore$Branch;" } : Jvm.MethodName)) ∈ zTW := zin1 (List.mem_of_getElem? (i := 158) rfl)
theorem q159 : (Jvm.Cond.instanceMethod ({ cls := "SurveyStore", name := "branchAt", desc := "(I)LSurveyStore$Branch;" } : Jvm.MethodName)) ∈ zTW := zin1 (List.mem_of_getElem? (i := 159) rfl)
theorem q160 : (Jvm.Cond.code ({ cls := "SurveyStore", name := "branchAt", desc := "(I)LSurveyStore$Branch;" } : Jvm.MethodName) prog_1_method_42_code (2 : Nat) (Option.some (Jvm.ClassFile.FieldType.object "SurveyStore$Branch"))) ∈ zTW := zin1 (List.mem_of_getElem? (i := 160) rfl)
theorem q161 : (Jvm.Cond.methodLink "SurveyStoreLaw" (74 : Nat) ({ cls := "SurveyStore", name := "region", desc := "(IIII)Z" } : Jvm.MethodName)) ∈ zTW := zin1 (List.mem_of_getElem? (i := 161) rfl)
theorem q162 : (Jvm.Cond.instanceMethod ({ cls := "SurveyStore", name := "region", desc := "(IIII)Z" } : Jvm.MethodName)) ∈ zTW := zin1 (List.mem_of_getElem? (i := 162) rfl)
theorem q163 : (Jvm.Cond.selects "SurveyStore" ({ cls := "SurveyStore", name := "region", desc := "(IIII)Z" } : Jvm.MethodName) ({ cls := "SurveyStore", name := "region", desc := "(IIII)Z" } : Jvm.MethodName)) ∈ zTW := zin1 (List.mem_of_getElem? (i := 163) rfl)
theorem q164 : (Jvm.Cond.code ({ cls := "SurveyStore", name := "region", desc := "(IIII)Z" } : Jvm.MethodName) prog_1_method_5_code (5 : Nat) (Option.some Jvm.ClassFile.FieldType.boolean)) ∈ zTW := zin1 (List.mem_of_getElem? (i := 164) rfl)
theorem q165 : (Jvm.Cond.methodLink "SurveyStore" (99 : Nat) ({ cls := "SurveyStore", name := "fits", desc := "(II)Z" } : Jvm.MethodName)) ∈ zTW := zin1 (List.mem_of_getElem? (i := 165) rfl)
theorem q166 : (Jvm.Cond.static ({ cls := "SurveyStore", name := "fits", desc := "(II)Z" } : Jvm.MethodName)) ∈ zTW := zin1 (List.mem_of_getElem? (i := 166) rfl)
theorem q167 : (Jvm.Cond.code ({ cls := "SurveyStore", name := "fits", desc := "(II)Z" } : Jvm.MethodName) prog_1_method_29_code (2 : Nat) (Option.some Jvm.ClassFile.FieldType.boolean)) ∈ zTW := zin1 (List.mem_of_getElem? (i := 167) rfl)
theorem q168 : (Jvm.Cond.methodLink "SurveyStoreLaw" (83 : Nat) ({ cls := "SurveyStore", name := "corner", desc := "(III)Z" } : Jvm.MethodName)) ∈ zTW := zin1 (List.mem_of_getElem? (i := 168) rfl)
theorem q169 : (Jvm.Cond.instanceMethod ({ cls := "SurveyStore", name := "corner", desc := "(III)Z" } : Jvm.MethodName)) ∈ zTW := zin1 (List.mem_of_getElem? (i := 169) rfl)
theorem q170 : (Jvm.Cond.selects "SurveyStore" ({ cls := "SurveyStore", name := "corner", desc := "(III)Z" } : Jvm.MethodName) ({ cls := "SurveyStore", name := "corner", desc := "(III)Z" } : Jvm.MethodName)) ∈ zTW := zin1 (List.mem_of_getElem? (i := 170) rfl)
theorem q171 : (Jvm.Cond.code ({ cls := "SurveyStore", name := "corner", desc := "(III)Z" } : Jvm.MethodName) prog_1_method_7_code (4 : Nat) (Option.some Jvm.ClassFile.FieldType.boolean)) ∈ zTW := zin1 (List.mem_of_getElem? (i := 171) rfl)
theorem q172 : (Jvm.Cond.methodLink "SurveyStore" (125 : Nat) ({ cls := "SurveyStore", name := "isPoint", desc := "(I)Z" } : Jvm.MethodName)) ∈ zTW := zin1 (List.mem_of_getElem? (i := 172) rfl)
theorem q173 : (Jvm.Cond.static ({ cls := "SurveyStore", name := "isPoint", desc := "(I)Z" } : Jvm.MethodName)) ∈ zTW := zin1 (List.mem_of_getElem? (i := 173) rfl)
theorem q174 : (Jvm.Cond.code ({ cls := "SurveyStore", name := "isPoint", desc := "(I)Z" } : Jvm.MethodName) prog_1_method_27_code (1 : Nat) (Option.some Jvm.ClassFile.FieldType.boolean)) ∈ zTW := zin1 (List.mem_of_getElem? (i := 174) rfl)
theorem q175 : (Jvm.Cond.methodLink "SurveyStoreLaw" (96 : Nat) ({ cls := "SurveyStore", name := "entry", desc := "(III)Z" } : Jvm.MethodName)) ∈ zTW := zin1 (List.mem_of_getElem? (i := 175) rfl)
theorem q176 : (Jvm.Cond.instanceMethod ({ cls := "SurveyStore", name := "entry", desc := "(III)Z" } : Jvm.MethodName)) ∈ zTW := zin1 (List.mem_of_getElem? (i := 176) rfl)
theorem q177 : (Jvm.Cond.selects "SurveyStore" ({ cls := "SurveyStore", name := "entry", desc := "(III)Z" } : Jvm.MethodName) ({ cls := "SurveyStore", name := "entry", desc := "(III)Z" } : Jvm.MethodName)) ∈ zTW := zin1 (List.mem_of_getElem? (i := 177) rfl)
theorem q178 : (Jvm.Cond.code ({ cls := "SurveyStore", name := "entry", desc := "(III)Z" } : Jvm.MethodName) prog_1_method_10_code (4 : Nat) (Option.some Jvm.ClassFile.FieldType.boolean)) ∈ zTW := zin1 (List.mem_of_getElem? (i := 178) rfl)
theorem q179 : (Jvm.Cond.methodLink "SurveyStore" (139 : Nat) ({ cls := "SurveyStore", name := "isValue", desc := "(I)Z" } : Jvm.MethodName)) ∈ zTW := zin1 (List.mem_of_getElem? (i := 179) rfl)
theorem q180 : (Jvm.Cond.static ({ cls := "SurveyStore", name := "isValue", desc := "(I)Z" } : Jvm.MethodName)) ∈ zTW := zin1 (List.mem_of_getElem? (i := 180) rfl)
theorem q181 : (Jvm.Cond.code ({ cls := "SurveyStore", name := "isValue", desc := "(I)Z" } : Jvm.MethodName) prog_1_method_28_code (1 : Nat) (Option.some Jvm.ClassFile.FieldType.boolean)) ∈ zTW := zin1 (List.mem_of_getElem? (i := 181) rfl)
theorem q182 : (Jvm.Cond.constant "SurveyStore" (288 : Nat) (-1000000 : Int32)) ∈ zTW := zin1 (List.mem_of_getElem? (i := 182) rfl)
theorem q183 : (Jvm.Cond.constant "SurveyStore" (289 : Nat) (1000000 : Int32)) ∈ zTW := zin1 (List.mem_of_getElem? (i := 183) rfl)
theorem q184 : (Jvm.Cond.methodLink "SurveyStoreLaw" (114 : Nat) ({ cls := "SurveyStore", name := "conflict", desc := "(III)I" } : Jvm.MethodName)) ∈ zTW := zin1 (List.mem_of_getElem? (i := 184) rfl)
theorem q185 : (Jvm.Cond.instanceMethod ({ cls := "SurveyStore", name := "conflict", desc := "(III)I" } : Jvm.MethodName)) ∈ zTW := zin1 (List.mem_of_getElem? (i := 185) rfl)
theorem q186 : (Jvm.Cond.selects "SurveyStore" ({ cls := "SurveyStore", name := "conflict", desc := "(III)I" } : Jvm.MethodName) ({ cls := "SurveyStore", name := "conflict", desc := "(III)I" } : Jvm.MethodName)) ∈ zTW := zin1 (List.mem_of_getElem? (i := 186) rfl)
theorem q187 : (Jvm.Cond.code ({ cls := "SurveyStore", name := "conflict", desc := "(III)I" } : Jvm.MethodName) prog_1_method_15_code (5 : Nat) (Option.some Jvm.ClassFile.FieldType.int)) ∈ zTW := zin1 (List.mem_of_getElem? (i := 187) rfl)
theorem q188 : (Jvm.Cond.methodLink "SurveyStore" (213 : Nat) ({ cls := "SurveyStore$Conflicts", name := "tell", desc := "(II)I" } : Jvm.MethodName)) ∈ zTW := zin1 (List.mem_of_getElem? (i := 188) rfl)
theorem q189 : (Jvm.Cond.instanceMethod ({ cls := "SurveyStore$Conflicts", name := "tell", desc := "(II)I" } : Jvm.MethodName)) ∈ zTW := zin1 (List.mem_of_getElem? (i := 189) rfl)
theorem q190 : (Jvm.Cond.selects "SurveyStore$Conflicts" ({ cls := "SurveyStore$Conflicts", name := "tell", desc := "(II)I" } : Jvm.MethodName) ({ cls := "SurveyStore$Conflicts", name := "tell", desc := "(II)I" } : Jvm.MethodName)) ∈ zTW := zin1 (List.mem_of_getElem? (i := 190) rfl)
theorem q191 : (Jvm.Cond.code ({ cls := "SurveyStore$Conflicts", name := "tell", desc := "(II)I" } : Jvm.MethodName) prog_6_method_6_code (3 : Nat) (Option.some Jvm.ClassFile.FieldType.int)) ∈ zTW := zin1 (List.mem_of_getElem? (i := 191) rfl)
theorem q192 : (Jvm.Cond.methodLink "SurveyStore$Conflicts" (35 : Nat) ({ cls := "SurveyStore$Conflicts", name := "has", desc := "(I)Z" } : Jvm.MethodName)) ∈ zTW := zin1 (List.mem_of_getElem? (i := 192) rfl)
theorem q193 : (Jvm.Cond.instanceMethod ({ cls := "SurveyStore$Conflicts", name := "has", desc := "(I)Z" } : Jvm.MethodName)) ∈ zTW := zin1 (List.mem_of_getElem? (i := 193) rfl)
theorem q194 : (Jvm.Cond.selects "SurveyStore$Conflicts" ({ cls := "SurveyStore$Conflicts", name := "has", desc := "(I)Z" } : Jvm.MethodName) ({ cls := "SurveyStore$Conflicts", name := "has", desc := "(I)Z" } : Jvm.MethodName)) ∈ zTW := zin1 (List.mem_of_getElem? (i := 194) rfl)
theorem q195 : (Jvm.Cond.code ({ cls := "SurveyStore$Conflicts", name := "has", desc := "(I)Z" } : Jvm.MethodName) prog_6_method_4_code (2 : Nat) (Option.some Jvm.ClassFile.FieldType.boolean)) ∈ zTW := zin1 (List.mem_of_getElem? (i := 195) rfl)
theorem q196 : (Jvm.Cond.constant "SurveyStore$Conflicts" (39 : Nat) (-2147483648 : Int32)) ∈ zTW := zin1 (List.mem_of_getElem? (i := 196) rfl)
theorem q197 : (Jvm.Cond.methodLinkNest "SurveyStore$Conflicts" (40 : Nat) ({ cls := "SurveyStore", name := "layerOf", desc := "(I)I" } : Jvm.MethodName) "SurveyStore") ∈ zTW := zin1 (List.mem_of_getElem? (i := 197) rfl)
theorem q198 : (Jvm.Cond.static ({ cls := "SurveyStore", name := "layerOf", desc := "(I)I" } : Jvm.MethodName)) ∈ zTW := zin1 (List.mem_of_getElem? (i := 198) rfl)
theorem q199 : (Jvm.Cond.code ({ cls := "SurveyStore", name := "layerOf", desc := "(I)I" } : Jvm.MethodName) prog_1_method_32_code (1 : Nat) (Option.some Jvm.ClassFile.FieldType.int)) ∈ zTW := zin1 (List.mem_of_getElem? (i := 199) rfl)
theorem q200 : (Jvm.Cond.methodLinkNest "SurveyStore$Conflicts" (44 : Nat) ({ cls := "SurveyStore", name := "xOf", desc := "(I)I" } : Jvm.MethodName) "SurveyStore") ∈ zTW := zin1 (List.mem_of_getElem? (i := 200) rfl)
theorem q201 : (Jvm.Cond.static ({ cls := "SurveyStore", name := "xOf", desc := "(I)I" } : Jvm.MethodName)) ∈ zTW := zin1 (List.mem_of_getElem? (i := 201) rfl)
theorem q202 : (Jvm.Cond.code ({ cls := "SurveyStore", name := "xOf", desc := "(I)I" } : Jvm.MethodName) prog_1_method_34_code (1 : Nat) (Option.some Jvm.ClassFile.FieldType.int)) ∈ zTW := zin1 (List.mem_of_getElem? (i := 202) rfl)
theorem q203 : (Jvm.Cond.methodLinkNest "SurveyStore$Conflicts" (47 : Nat) ({ cls := "SurveyStore", name := "yOf", desc := "(I)I" } : Jvm.MethodName) "SurveyStore") ∈ zTW := zin1 (List.mem_of_getElem? (i := 203) rfl)
theorem q204 : (Jvm.Cond.static ({ cls := "SurveyStore", name := "yOf", desc := "(I)I" } : Jvm.MethodName)) ∈ zTW := zin1 (List.mem_of_getElem? (i := 204) rfl)
theorem q205 : (Jvm.Cond.code ({ cls := "SurveyStore", name := "yOf", desc := "(I)I" } : Jvm.MethodName) prog_1_method_33_code (1 : Nat) (Option.some Jvm.ClassFile.FieldType.int)) ∈ zTW := zin1 (List.mem_of_getElem? (i := 205) rfl)
theorem q206 : (Jvm.Cond.methodLink "SurveyStoreLaw" (122 : Nat) ({ cls := "SurveyStore", name := "value", desc := "(IIII)I" } : Jvm.MethodName)) ∈ zTW := zin1 (List.mem_of_getElem? (i := 206) rfl)
theorem q207 : (Jvm.Cond.instanceMethod ({ cls := "SurveyStore", name := "value", desc := "(IIII)I" } : Jvm.MethodName)) ∈ zTW := zin1 (List.mem_of_getElem? (i := 207) rfl)
theorem q208 : (Jvm.Cond.selects "SurveyStore" ({ cls := "SurveyStore", name := "value", desc := "(IIII)I" } : Jvm.MethodName) ({ cls := "SurveyStore", name := "value", desc := "(IIII)I" } : Jvm.MethodName)) ∈ zTW := zin1 (List.mem_of_getElem? (i := 208) rfl)
theorem q209 : (Jvm.Cond.code ({ cls := "SurveyStore", name := "value", desc := "(IIII)I" } : Jvm.MethodName) prog_1_method_17_code (5 : Nat) (Option.some Jvm.ClassFile.FieldType.int)) ∈ zTW := zin1 (List.mem_of_getElem? (i := 209) rfl)
theorem q210 : (Jvm.Cond.methodLink "SurveyStore" (229 : Nat) ({ cls := "SurveyStore", name := "cellAt", desc := "(IIII)J" } : Jvm.MethodName)) ∈ zTW := zin1 (List.mem_of_getElem? (i := 210) rfl)
theorem q211 : (Jvm.Cond.privateMethod ({ cls := "SurveyStore", name := "cellAt", desc := "(IIII)J" } : Jvm.MethodName)) ∈ zTW := zin1 (List.mem_of_getElem? (i := 211) rfl)
theorem q212 : (Jvm.Cond.instanceMethod ({ cls := "SurveyStore", name := "cellAt", desc := "(IIII)J" } : Jvm.MethodName)) ∈ zTW := zin1 (List.mem_of_getElem? (i := 212) rfl)
theorem q213 : (Jvm.Cond.code ({ cls := "SurveyStore", name := "cellAt", desc := "(IIII)J" } : Jvm.MethodName) prog_1_method_45_code (6 : Nat) (Option.some Jvm.ClassFile.FieldType.long)) ∈ zTW := zin1 (List.mem_of_getElem? (i := 213) rfl)
theorem q214 : (Jvm.Cond.methodLink "SurveyStore" (248 : Nat) ({ cls := "SurveyStore", name := "cellsOf", desc := "(I)[J" } : Jvm.MethodName)) ∈ zTW := zin1 (List.mem_of_getElem? (i := 214) rfl)
theorem q215 : (Jvm.Cond.privateMethod ({ cls := "SurveyStore", name := "cellsOf", desc := "(I)[J" } : Jvm.MethodName)) ∈ zTW := zin1 (List.mem_of_getElem? (i := 215) rfl)
theorem q216 : (Jvm.Cond.instanceMethod ({ cls := "SurveyStore", name := "cellsOf", desc := "(I)[J" } : Jvm.MethodName)) ∈ zTW := zin1 (List.mem_of_getElem? (i := 216) rfl)
theorem q217 : (Jvm.Cond.code ({ cls := "SurveyStore", name := "cellsOf", desc := "(I)[J" } : Jvm.MethodName) prog_1_method_44_code (4 : Nat) (Option.some (Jvm.ClassFile.FieldType.array Jvm.ClassFile.FieldType.long))) ∈ zTW := zin1 (List.mem_of_getElem? (i := 217) rfl)
theorem q218 : (Jvm.Cond.methodLink "SurveyStore" (77 : Nat) ({ cls := "SurveyStore", name := "commitAt", desc := "(I)LSurveyStore$Commit;" } : Jvm.MethodName)) ∈ zTW := zin1 (List.mem_of_getElem? (i := 218) rfl)
theorem q219 : (Jvm.Cond.privateMethod ({ cls := "SurveyStore", name := "commitAt", desc := "(I)LSurveyStore$Commit;" } : Jvm.MethodName)) ∈ zTW := zin1 (List.mem_of_getElem? (i := 219) rfl)
theorem q220 : (Jvm.Cond.instanceMethod ({ cls := "SurveyStore", name := "commitAt", desc := "(I)LSurveyStore$Commit;" } : Jvm.MethodName)) ∈ zTW := zin1 (List.mem_of_getElem? (i := 220) rfl)
theorem q221 : (Jvm.Cond.code ({ cls := "SurveyStore", name := "commitAt", desc := "(I)LSurveyStore$Commit;" } : Jvm.MethodName) prog_1_method_41_code (2 : Nat) (Option.some (Jvm.ClassFile.FieldType.object "SurveyStore$Commit"))) ∈ zTW := zin1 (List.mem_of_getElem? (i := 221) rfl)
theorem q222 : (Jvm.Cond.methodLink "SurveyStore" (267 : Nat) ({ cls := "SurveyStore", name := "branchOfPlace", desc := "(I)LSurveyStore$Branch;" } : Jvm.MethodName)) ∈ zTW := zin1 (List.mem_of_getElem? (i := 222) rfl)
theorem q223 : (Jvm.Cond.privateMethod ({ cls := "SurveyStore", name := "branchOfPlace", desc := "(I)LSurveyStore$Branch;" } : Jvm.MethodName)) ∈ zTW := zin1 (List.mem_of_getElem? (i := 223) rfl)
theorem q224 : (Jvm.Cond.instanceMethod ({ cls := "SurveyStore", name := "branchOfPlace", desc := "(I)LSurveyStore$Branch;" } : Jvm.MethodName)) ∈ zTW := zin1 (List.mem_of_getElem? (i := 224) rfl)
theorem q225 : (Jvm.Cond.code ({ cls := "SurveyStore", name := "branchOfPlace", desc := "(I)LSurveyStore$Branch;" } : Jvm.MethodName) prog_1_method_43_code (2 : Nat) (Option.some (Jvm.ClassFile.FieldType.object "SurveyStore$Branch"))) ∈ zTW := zin1 (List.mem_of_getElem? (i := 225) rfl)
theorem q226 : (Jvm.Cond.methodLink "SurveyStore" (290 : Nat) ({ cls := "SurveyStore", name := "isCoordinate", desc := "(I)Z" } : Jvm.MethodName)) ∈ zTW := zin1 (List.mem_of_getElem? (i := 226) rfl)
theorem q227 : (Jvm.Cond.static ({ cls := "SurveyStore", name := "isCoordinate", desc := "(I)Z" } : Jvm.MethodName)) ∈ zTW := zin1 (List.mem_of_getElem? (i := 227) rfl)
theorem q228 : (Jvm.Cond.code ({ cls := "SurveyStore", name := "isCoordinate", desc := "(I)Z" } : Jvm.MethodName) prog_1_method_26_code (1 : Nat) (Option.some Jvm.ClassFile.FieldType.boolean)) ∈ zTW := zin1 (List.mem_of_getElem? (i := 228) rfl)
theorem q229 : (Jvm.Cond.methodLink "SurveyStore" (117 : Nat) ({ cls := "SurveyStore", name := "indexOf", desc := "(III)I" } : Jvm.MethodName)) ∈ zTW := zin1 (List.mem_of_getElem? (i := 229) rfl)
theorem q230 : (Jvm.Cond.static ({ cls := "SurveyStore", name := "indexOf", desc := "(III)I" } : Jvm.MethodName)) ∈ zTW := zin1 (List.mem_of_getElem? (i := 230) rfl)
theorem q231 : (Jvm.Cond.code ({ cls := "SurveyStore", name := "indexOf", desc := "(III)I" } : Jvm.MethodName) prog_1_method_31_code (3 : Nat) (Option.some Jvm.ClassFile.FieldType.int)) ∈ zTW := zin1 (List.mem_of_getElem? (i := 231) rfl)
theorem q232 : (Jvm.Cond.methodLink "SurveyStore" (142 : Nat) ({ cls := "SurveyStore", name := "valueOf", desc := "(J)I" } : Jvm.MethodName)) ∈ zTW := zin1 (List.mem_of_getElem? (i := 232) rfl)
theorem q233 : (Jvm.Cond.static ({ cls := "SurveyStore", name := "valueOf", desc := "(J)I" } : Jvm.MethodName)) ∈ zTW := zin1 (List.mem_of_getElem? (i := 233) rfl)
theorem q234 : (Jvm.Cond.code ({ cls := "SurveyStore", name := "valueOf", desc := "(J)I" } : Jvm.MethodName) prog_1_method_36_code (2 : Nat) (Option.some Jvm.ClassFile.FieldType.int)) ∈ zTW := zin1 (List.mem_of_getElem? (i := 234) rfl)
theorem q235 : (Jvm.Cond.methodLink "SurveyStoreLaw" (127 : Nat) ({ cls := "SurveyStore", name := "origin", desc := "(IIIII)I" } : Jvm.MethodName)) ∈ zTW := zin1 (List.mem_of_getElem? (i := 235) rfl)
theorem q236 : (Jvm.Cond.instanceMethod ({ cls := "SurveyStore", name := "origin", desc := "(IIIII)I" } : Jvm.MethodName)) ∈ zTW := zin1 (List.mem_of_getElem? (i := 236) rfl)
theorem q237 : (Jvm.Cond.selects "SurveyStore" ({ cls := "SurveyStore", name := "origin", desc := "(IIIII)I" } : Jvm.MethodName) ({ cls := "SurveyStore", name := "origin", desc := "(IIIII)I" } : Jvm.MethodName)) ∈ zTW := zin1 (List.mem_of_getElem? (i := 237) rfl)
theorem q238 : (Jvm.Cond.code ({ cls := "SurveyStore", name := "origin", desc := "(IIIII)I" } : Jvm.MethodName) prog_1_method_18_code (8 : Nat) (Option.some Jvm.ClassFile.FieldType.int)) ∈ zTW := zin1 (List.mem_of_getElem? (i := 238) rfl)
theorem q239 : (Jvm.Cond.methodLink "SurveyStore" (233 : Nat) ({ cls := "SurveyStore", name := "originCommitOf", desc := "(J)I" } : Jvm.MethodName)) ∈ zTW := zin1 (List.mem_of_getElem? (i := 239) rfl)
theorem q240 : (Jvm.Cond.static ({ cls := "SurveyStore", name := "originCommitOf", desc := "(J)I" } : Jvm.MethodName)) ∈ zTW := zin2 (List.mem_of_getElem? (i := 0) rfl)
theorem q241 : (Jvm.Cond.code ({ cls := "SurveyStore", name := "originCommitOf", desc := "(J)I" } : Jvm.MethodName) prog_1_method_39_code (2 : Nat) (Option.some Jvm.ClassFile.FieldType.int)) ∈ zTW := zin2 (List.mem_of_getElem? (i := 1) rfl)
theorem q242 : (Jvm.Cond.methodLink "SurveyStore" (236 : Nat) ({ cls := "SurveyStore", name := "originIndexOf", desc := "(J)I" } : Jvm.MethodName)) ∈ zTW := zin2 (List.mem_of_getElem? (i := 2) rfl)
theorem q243 : (Jvm.Cond.static ({ cls := "SurveyStore", name := "originIndexOf", desc := "(J)I" } : Jvm.MethodName)) ∈ zTW := zin2 (List.mem_of_getElem? (i := 3) rfl)
theorem q244 : (Jvm.Cond.code ({ cls := "SurveyStore", name := "originIndexOf", desc := "(J)I" } : Jvm.MethodName) prog_1_method_38_code (2 : Nat) (Option.some Jvm.ClassFile.FieldType.int)) ∈ zTW := zin2 (List.mem_of_getElem? (i := 4) rfl)
theorem q245 : (Jvm.Cond.methodLink "SurveyStore" (239 : Nat) ({ cls := "SurveyStore", name := "layerOf", desc := "(I)I" } : Jvm.MethodName)) ∈ zTW := zin2 (List.mem_of_getElem? (i := 5) rfl)
theorem q246 : (Jvm.Cond.methodLink "SurveyStore" (242 : Nat) ({ cls := "SurveyStore", name := "xOf", desc := "(I)I" } : Jvm.MethodName)) ∈ zTW := zin2 (List.mem_of_getElem? (i := 6) rfl)
theorem q247 : (Jvm.Cond.methodLink "SurveyStore" (245 : Nat) ({ cls := "SurveyStore", name := "yOf", desc := "(I)I" } : Jvm.MethodName)) ∈ zTW := zin2 (List.mem_of_getElem? (i := 7) rfl)
theorem q248 : (Jvm.Cond.methodLink "SurveyStoreLaw" (135 : Nat) ({ cls := "SurveyStore", name := "differing", desc := "(III)I" } : Jvm.MethodName)) ∈ zTW := zin2 (List.mem_of_getElem? (i := 8) rfl)
theorem q249 : (Jvm.Cond.instanceMethod ({ cls := "SurveyStore", name := "differing", desc := "(III)I" } : Jvm.MethodName)) ∈ zTW := zin2 (List.mem_of_getElem? (i := 9) rfl)
theorem q250 : (Jvm.Cond.selects "SurveyStore" ({ cls := "SurveyStore", name := "differing", desc := "(III)I" } : Jvm.MethodName) ({ cls := "SurveyStore", name := "differing", desc := "(III)I" } : Jvm.MethodName)) ∈ zTW := zin2 (List.mem_of_getElem? (i := 10) rfl)
theorem q251 : (Jvm.Cond.code ({ cls := "SurveyStore", name := "differing", desc := "(III)I" } : Jvm.MethodName) prog_1_method_20_code (8 : Nat) (Option.some Jvm.ClassFile.FieldType.int)) ∈ zTW := zin2 (List.mem_of_getElem? (i := 11) rfl)
theorem q252 : (Jvm.Cond.methodLink "SurveyStoreLaw" (139 : Nat) ({ cls := "SurveyStore", name := "differs", desc := "(IIII)I" } : Jvm.MethodName)) ∈ zTW := zin2 (List.mem_of_getElem? (i := 12) rfl)
theorem q253 : (Jvm.Cond.instanceMethod ({ cls := "SurveyStore", name := "differs", desc := "(IIII)I" } : Jvm.MethodName)) ∈ zTW := zin2 (List.mem_of_getElem? (i := 13) rfl)
theorem q254 : (Jvm.Cond.selects "SurveyStore" ({ cls := "SurveyStore", name := "differs", desc := "(IIII)I" } : Jvm.MethodName) ({ cls := "SurveyStore", name := "differs", desc := "(IIII)I" } : Jvm.MethodName)) ∈ zTW := zin2 (List.mem_of_getElem? (i := 14) rfl)
theorem q255 : (Jvm.Cond.code ({ cls := "SurveyStore", name := "differs", desc := "(IIII)I" } : Jvm.MethodName) prog_1_method_21_code (10 : Nat) (Option.some Jvm.ClassFile.FieldType.int)) ∈ zTW := zin2 (List.mem_of_getElem? (i := 15) rfl)
theorem q256 : (Jvm.Cond.methodLink "SurveyStoreLaw" (143 : Nat) ({ cls := "SurveyStore", name := "nearest", desc := "(III)I" } : Jvm.MethodName)) ∈ zTW := zin2 (List.mem_of_getElem? (i := 16) rfl)
theorem q257 : (Jvm.Cond.instanceMethod ({ cls := "SurveyStore", name := "nearest", desc := "(III)I" } : Jvm.MethodName)) ∈ zTW := zin2 (List.mem_of_getElem? (i := 17) rfl)
theorem q258 : (Jvm.Cond.selects "SurveyStore" ({ cls := "SurveyStore", name := "nearest", desc := "(III)I" } : Jvm.MethodName) ({ cls := "SurveyStore", name := "nearest", desc := "(III)I" } : Jvm.MethodName)) ∈ zTW := zin2 (List.mem_of_getElem? (i := 18) rfl)
theorem q259 : (Jvm.Cond.code ({ cls := "SurveyStore", name := "nearest", desc := "(III)I" } : Jvm.MethodName) prog_1_method_22_code (7 : Nat) (Option.some Jvm.ClassFile.FieldType.int)) ∈ zTW := zin2 (List.mem_of_getElem? (i := 19) rfl)
theorem q260 : (Jvm.Cond.methodLink "SurveyStore" (260 : Nat) ({ cls := "SurveyStore", name := "nearestOf", desc := "(II)I" } : Jvm.MethodName)) ∈ zTW := zin2 (List.mem_of_getElem? (i := 20) rfl)
theorem q261 : (Jvm.Cond.privateMethod ({ cls := "SurveyStore", name := "nearestOf", desc := "(II)I" } : Jvm.MethodName)) ∈ zTW := zin2 (List.mem_of_getElem? (i := 21) rfl)
theorem q262 : (Jvm.Cond.instanceMethod ({ cls := "SurveyStore", name := "nearestOf", desc := "(II)I" } : Jvm.MethodName)) ∈ zTW := zin2 (List.mem_of_getElem? (i := 22) rfl)
theorem q263 : (Jvm.Cond.code ({ cls := "SurveyStore", name := "nearestOf", desc := "(II)I" } : Jvm.MethodName) prog_1_method_56_code (7 : Nat) (Option.some Jvm.ClassFile.FieldType.int)) ∈ zTW := zin2 (List.mem_of_getElem? (i := 23) rfl)
theorem q264 : (Jvm.Cond.methodLink "SurveyStore" (186 : Nat) ({ cls := "SurveyStore", name := "contains", desc := "(II)Z" } : Jvm.MethodName)) ∈ zTW := zin2 (List.mem_of_getElem? (i := 24) rfl)
theorem q265 : (Jvm.Cond.static ({ cls := "SurveyStore", name := "contains", desc := "(II)Z" } : Jvm.MethodName)) ∈ zTW := zin2 (List.mem_of_getElem? (i := 25) rfl)
theorem q266 : (Jvm.Cond.code ({ cls := "SurveyStore", name := "contains", desc := "(II)Z" } : Jvm.MethodName) prog_1_method_30_code (2 : Nat) (Option.some Jvm.ClassFile.FieldType.boolean)) ∈ zTW := zin2 (List.mem_of_getElem? (i := 26) rfl)
theorem q267 : (Jvm.Cond.methodLink "SurveyStore" (172 : Nat) ({ cls := "SurveyStore", name := "ancestorsOf", desc := "(I)I" } : Jvm.MethodName)) ∈ zTW := zin2 (List.mem_of_getElem? (i := 27) rfl)
theorem q268 : (Jvm.Cond.privateMethod ({ cls := "SurveyStore", name := "ancestorsOf", desc := "(I)I" } : Jvm.MethodName)) ∈ zTW := zin2 (List.mem_of_getElem? (i := 28) rfl)
theorem q269 : (Jvm.Cond.instanceMethod ({ cls := "SurveyStore", name := "ancestorsOf", desc := "(I)I" } : Jvm.MethodName)) ∈ zTW := zin2 (List.mem_of_getElem? (i := 29) rfl)
theorem q270 : (Jvm.Cond.code ({ cls := "SurveyStore", name := "ancestorsOf", desc := "(I)I" } : Jvm.MethodName) prog_1_method_55_code (3 : Nat) (Option.some Jvm.ClassFile.FieldType.int)) ∈ zTW := zin2 (List.mem_of_getElem? (i := 30) rfl)
theorem q271 : (Jvm.Cond.methodLink "SurveyStoreLaw" (147 : Nat) ({ cls := "SurveyStore", name := "about", desc := "(II)I" } : Jvm.MethodName)) ∈ zTW := zin2 (List.mem_of_getElem? (i := 31) rfl)
theorem q272 : (Jvm.Cond.instanceMethod ({ cls := "SurveyStore", name := "about", desc := "(II)I" } : Jvm.MethodName)) ∈ zTW := zin2 (List.mem_of_getElem? (i := 32) rfl)
theorem q273 : (Jvm.Cond.selects "SurveyStore" ({ cls := "SurveyStore", name := "about", desc := "(II)I" } : Jvm.MethodName) ({ cls := "SurveyStore", name := "about", desc := "(II)I" } : Jvm.MethodName)) ∈ zTW := zin2 (List.mem_of_getElem? (i := 33) rfl)
theorem q274 : (Jvm.Cond.code ({ cls := "SurveyStore", name := "about", desc := "(II)I" } : Jvm.MethodName) prog_1_method_23_code (5 : Nat) (Option.some Jvm.ClassFile.FieldType.int)) ∈ zTW := zin2 (List.mem_of_getElem? (i := 34) rfl)
theorem q275 : (Jvm.Cond.methodLink "SurveyStore" (263 : Nat) ({ cls := "SurveyStore", name := "aboutCommit", desc := "(LSurveyStore$Commit;II)I" } : Jvm.MethodName)) ∈ zTW := zin2 (List.mem_of_getElem? (i := 35) rfl)
theorem q276 : (Jvm.Cond.privateMethod ({ cls := "SurveyStore", name := "aboutCommit", desc := "(LSurveyStore$Commit;II)I" } : Jvm.MethodName)) ∈ zTW := zin2 (List.mem_of_getElem? (i := 36) rfl)
theorem q277 : (Jvm.Cond.instanceMethod ({ cls := "SurveyStore", name := "aboutCommit", desc := "(LSurveyStore$Commit;II)I" } : Jvm.MethodName)) ∈ zTW := zin2 (List.mem_of_getElem? (i := 37) rfl)
theorem q278 : (Jvm.Cond.code ({ cls := "SurveyStore", name := "aboutCommit", desc := "(LSurveyStore$Commit;II)I" } : Jvm.MethodName) prog_1_method_62_code (4 : Nat) (Option.some Jvm.ClassFile.FieldType.int)) ∈ zTW := zin2 (List.mem_of_getElem? (i := 38) rfl)
theorem q279 : (Jvm.Cond.methodLink "SurveyStore" (341 : Nat) ({ cls := "SurveyStore", name := "childrenOf", desc := "(I)I" } : Jvm.MethodName)) ∈ zTW := zin2 (List.mem_of_getElem? (i := 39) rfl)
theorem q280 : (Jvm.Cond.privateMethod ({ cls := "SurveyStore", name := "childrenOf", desc := "(I)I" } : Jvm.MethodName)) ∈ zTW := zin2 (List.mem_of_getElem? (i := 40) rfl)
theorem q281 : (Jvm.Cond.instanceMethod ({ cls := "SurveyStore", name := "childrenOf", desc := "(I)I" } : Jvm.MethodName)) ∈ zTW := zin2 (List.mem_of_getElem? (i := 41) rfl)
theorem q282 : (Jvm.Cond.code ({ cls := "SurveyStore", name := "childrenOf", desc := "(I)I" } : Jvm.MethodName) prog_1_method_63_code (5 : Nat) (Option.some Jvm.ClassFile.FieldType.int)) ∈ zTW := zin2 (List.mem_of_getElem? (i := 42) rfl)
theorem q283 : (Jvm.Cond.methodLink "SurveyStore" (344 : Nat) ({ cls := "SurveyStore$Commit", name := "hasParent", desc := "(I)Z" } : Jvm.MethodName)) ∈ zTW := zin2 (List.mem_of_getElem? (i := 43) rfl)
theorem q284 : (Jvm.Cond.instanceMethod ({ cls := "SurveyStore$Commit", name := "hasParent", desc := "(I)Z" } : Jvm.MethodName)) ∈ zTW := zin2 (List.mem_of_getElem? (i := 44) rfl)
theorem q285 : (Jvm.Cond.selects "SurveyStore$Commit" ({ cls := "SurveyStore$Commit", name := "hasParent", desc := "(I)Z" } : Jvm.MethodName) ({ cls := "SurveyStore$Commit", name := "hasParent", desc := "(I)Z" } : Jvm.MethodName)) ∈ zTW := zin2 (List.mem_of_getElem? (i := 45) rfl)
theorem q286 : (Jvm.Cond.code ({ cls := "SurveyStore$Commit", name := "hasParent", desc := "(I)Z" } : Jvm.MethodName) prog_5_method_2_code (2 : Nat) (Option.some Jvm.ClassFile.FieldType.boolean)) ∈ zTW := zin2 (List.mem_of_getElem? (i := 46) rfl)
theorem q287 : (Jvm.Cond.methodLink "SurveyStore" (270 : Nat) ({ cls := "SurveyStore", name := "aboutBranch", desc := "(LSurveyStore$Branch;I)I" } : Jvm.MethodName)) ∈ zTW := zin2 (List.mem_of_getElem? (i := 47) rfl)
theorem q288 : (Jvm.Cond.privateMethod ({ cls := "SurveyStore", name := "aboutBranch", desc := "(LSurveyStore$Branch;I)I" } : Jvm.MethodName)) ∈ zTW := zin2 (List.mem_of_getElem? (i := 48) rfl)
theorem q289 : (Jvm.Cond.instanceMethod ({ cls := "SurveyStore", name := "aboutBranch", desc := "(LSurveyStore$Branch;I)I" } : Jvm.MethodName)) ∈ zTW := zin2 (List.mem_of_getElem? (i := 49) rfl)
theorem q290 : (Jvm.Cond.code ({ cls := "SurveyStore", name := "aboutBranch", desc := "(LSurveyStore$Branch;I)I" } : Jvm.MethodName) prog_1_method_64_code (3 : Nat) (Option.some Jvm.ClassFile.FieldType.int)) ∈ zTW := zin2 (List.mem_of_getElem? (i := 50) rfl)
theorem q291 : (Jvm.Cond.methodLink "SurveyStore" (157 : Nat) ({ cls := "SurveyStore", name := "isChanged", desc := "(LSurveyStore$Branch;)Z" } : Jvm.MethodName)) ∈ zTW := zin2 (List.mem_of_getElem? (i := 51) rfl)
theorem q292 : (Jvm.Cond.privateMethod ({ cls := "SurveyStore", name := "isChanged", desc := "(LSurveyStore$Branch;)Z" } : Jvm.MethodName)) ∈ zTW := zin2 (List.mem_of_getElem? (i := 52) rfl)
theorem q293 : (Jvm.Cond.instanceMethod ({ cls := "SurveyStore", name := "isChanged", desc := "(LSurveyStore$Branch;)Z" } : Jvm.MethodName)) ∈ zTW := zin2 (List.mem_of_getElem? (i := 53) rfl)
theorem q294 : (Jvm.Cond.code ({ cls := "SurveyStore", name := "isChanged", desc := "(LSurveyStore$Branch;)Z" } : Jvm.MethodName) prog_1_method_53_code (4 : Nat) (Option.some Jvm.ClassFile.FieldType.boolean)) ∈ zTW := zin2 (List.mem_of_getElem? (i := 54) rfl)
theorem q295 : (Jvm.Cond.methodLink "SurveyStoreLaw" (151 : Nat) ({ cls := "SurveyStore", name := "blocks", desc := "(I)I" } : Jvm.MethodName)) ∈ zTW := zin2 (List.mem_of_getElem? (i := 55) rfl)
theorem q296 : (Jvm.Cond.instanceMethod ({ cls := "SurveyStore", name := "blocks", desc := "(I)I" } : Jvm.MethodName)) ∈ zTW := zin2 (List.mem_of_getElem? (i := 56) rfl)
theorem q297 : (Jvm.Cond.selects "SurveyStore" ({ cls := "SurveyStore", name := "blocks", desc := "(I)I" } : Jvm.MethodName) ({ cls := "SurveyStore", name := "blocks", desc := "(I)I" } : Jvm.MethodName)) ∈ zTW := zin2 (List.mem_of_getElem? (i := 57) rfl)
theorem q298 : (Jvm.Cond.code ({ cls := "SurveyStore", name := "blocks", desc := "(I)I" } : Jvm.MethodName) prog_1_method_24_code (4 : Nat) (Option.some Jvm.ClassFile.FieldType.int)) ∈ zTW := zin2 (List.mem_of_getElem? (i := 58) rfl)
theorem q299 : (Jvm.Cond.classLink "SurveyStore" (278 : Nat) "SurveyStore$BlockTable") ∈ zTW := zin2 (List.mem_of_getElem? (i := 59) rfl)
theorem q300 : (Jvm.Cond.instantiable "SurveyStore$BlockTable" (3 : Nat)) ∈ zTW := zin2 (List.mem_of_getElem? (i := 60) rfl)
theorem q301 : (Jvm.Cond.methodLinkNest "SurveyStore" (280 : Nat) ({ cls := "SurveyStore$BlockTable", name := "<init>", desc := "()V" } : Jvm.MethodName) "SurveyStore") ∈ zTW := zin2 (List.mem_of_getElem? (i := 61) rfl)
theorem q302 : (Jvm.Cond.instanceMethod ({ cls := "SurveyStore$BlockTable", name := "<init>", desc := "()V" } : Jvm.MethodName)) ∈ zTW := zin2 (List.mem_of_getElem? (i := 62) rfl)
theorem q303 : (Jvm.Cond.code ({ cls := "SurveyStore$BlockTable", name := "<init>", desc := "()V" } : Jvm.MethodName) prog_3_method_1_code (1 : Nat) (Option.none : Option Jvm.ClassFile.FieldType)) ∈ zTW := zin2 (List.mem_of_getElem? (i := 63) rfl)
theorem q304 : (Jvm.Cond.methodLink "SurveyStore$BlockTable" (3 : Nat) ({ cls := "java/lang/Object", name := "<init>", desc := "()V" } : Jvm.MethodName)) ∈ zTW := zin2 (List.mem_of_getElem? (i := 64) rfl)
theorem q305 : (Jvm.Cond.fieldLink "SurveyStore$BlockTable" (9 : Nat) "SurveyStore$BlockTable" "values" "[I") ∈ zTW := zin2 (List.mem_of_getElem? (i := 65) rfl)
theorem q306 : (Jvm.Cond.fieldLink "SurveyStore$BlockTable" (15 : Nat) "SurveyStore$BlockTable" "slots" "[I") ∈ zTW := zin2 (List.mem_of_getElem? (i := 66) rfl)
theorem q307 : (Jvm.Cond.fieldLink "SurveyStore$BlockTable" (24 : Nat) "SurveyStore$BlockTable" "count" "I") ∈ zTW := zin2 (List.mem_of_getElem? (i := 67) rfl)
theorem q308 : (Jvm.Cond.fieldLink "SurveyStore" (287 : Nat) "SurveyStore$BlockTable" "count" "I") ∈ zTW := zin2 (List.mem_of_getElem? (i := 68) rfl)
theorem q309 : (Jvm.Cond.laysFinal "SurveyStore$BlockTable" "SurveyStore$BlockTable" "values" "[I") ∈ zTW := zin2 (List.mem_of_getElem? (i := 69) rfl)
theorem q310 : (Jvm.Cond.soleField "SurveyStore$BlockTable" "values") ∈ zTW := zin2 (List.mem_of_getElem? (i := 70) rfl)
theorem q311 : (Jvm.Cond.laysFinal "SurveyStore$BlockTable" "SurveyStore$BlockTable" "slots" "[I") ∈ zTW := zin2 (List.mem_of_getElem? (i := 71) rfl)
theorem q312 : (Jvm.Cond.soleField "SurveyStore$BlockTable" "slots") ∈ zTW := zin2 (List.mem_of_getElem? (i := 72) rfl)
theorem q313 : (Jvm.Cond.lays "SurveyStore$BlockTable" "SurveyStore$BlockTable" "count" "I") ∈ zTW := zin2 (List.mem_of_getElem? (i := 73) rfl)
theorem q314 : (Jvm.Cond.soleField "SurveyStore$BlockTable" "count") ∈ zTW := zin2 (List.mem_of_getElem? (i := 74) rfl)
theorem q315 : (Jvm.Cond.superclass "SurveyStore$BlockTable" "java/lang/Object") ∈ zTW := zin2 (List.mem_of_getElem? (i := 75) rfl)
theorem q316 : (Jvm.Cond.methodLink "SurveyStore" (281 : Nat) ({ cls := "SurveyStore$BlockTable", name := "forget", desc := "()V" } : Jvm.MethodName)) ∈ zTW := zin2 (List.mem_of_getElem? (i := 76) rfl)
theorem q317 : (Jvm.Cond.instanceMethod ({ cls := "SurveyStore$BlockTable", name := "forget", desc := "()V" } : Jvm.MethodName)) ∈ zTW := zin2 (List.mem_of_getElem? (i := 77) rfl)
theorem q318 : (Jvm.Cond.selects "SurveyStore$BlockTable" ({ cls := "SurveyStore$BlockTable", name := "forget", desc := "()V" } : Jvm.MethodName) ({ cls := "SurveyStore$BlockTable", name := "forget", desc := "()V" } : Jvm.MethodName)) ∈ zTW := zin2 (List.mem_of_getElem? (i := 78) rfl)
theorem q319 : (Jvm.Cond.code ({ cls := "SurveyStore$BlockTable", name := "forget", desc := "()V" } : Jvm.MethodName) prog_3_method_2_code (1 : Nat) (Option.none : Option Jvm.ClassFile.FieldType)) ∈ zTW := zin2 (List.mem_of_getElem? (i := 79) rfl)
theorem q320 : (Jvm.Cond.methodLink "SurveyStore$BlockTable" (18 : Nat) ({ cls := "java/util/Arrays", name := "fill", desc := "([II)V" } : Jvm.MethodName)) ∈ zTW := zin2 (List.mem_of_getElem? (i := 80) rfl)
theorem q321 : (Jvm.Cond.methodLink "SurveyStore" (284 : Nat) ({ cls := "SurveyStore$BlockTable", name := "addAll", desc := "([JI)V" } : Jvm.MethodName)) ∈ zTW := zin2 (List.mem_of_getElem? (i := 81) rfl)
theorem q322 : (Jvm.Cond.instanceMethod ({ cls := "SurveyStore$BlockTable", name := "addAll", desc := "([JI)V" } : Jvm.MethodName)) ∈ zTW := zin2 (List.mem_of_getElem? (i := 82) rfl)
theorem q323 : (Jvm.Cond.selects "SurveyStore$BlockTable" ({ cls := "SurveyStore$BlockTable", name := "addAll", desc := "([JI)V" } : Jvm.MethodName) ({ cls := "SurveyStore$BlockTable", name := "addAll", desc := "([JI)V" } : Jvm.MethodName)) ∈ zTW := zin2 (List.mem_of_getElem? (i := 83) rfl)
theorem q324 : (Jvm.Cond.code ({ cls := "SurveyStore$BlockTable", name := "addAll", desc := "([JI)V" } : Jvm.MethodName) prog_3_method_3_code (5 : Nat) (Option.none : Option Jvm.ClassFile.FieldType)) ∈ zTW := zin2 (List.mem_of_getElem? (i := 84) rfl)
theorem q325 : (Jvm.Cond.methodLinkNest "SurveyStore$BlockTable" (28 : Nat) ({ cls := "SurveyStore", name := "indexOf", desc := "(III)I" } : Jvm.MethodName) "SurveyStore") ∈ zTW := zin2 (List.mem_of_getElem? (i := 85) rfl)
theorem q326 : (Jvm.Cond.methodLink "SurveyStore$BlockTable" (32 : Nat) ({ cls := "SurveyStore$BlockTable", name := "read", desc := "([JI)Z" } : Jvm.MethodName)) ∈ zTW := zin2 (List.mem_of_getElem? (i := 86) rfl)
theorem q327 : (Jvm.Cond.instanceMethod ({ cls := "SurveyStore$BlockTable", name := "read", desc := "([JI)Z" } : Jvm.MethodName)) ∈ zTW := zin2 (List.mem_of_getElem? (i := 87) rfl)
theorem q328 : (Jvm.Cond.selects "SurveyStore$BlockTable" ({ cls := "SurveyStore$BlockTable", name := "read", desc := "([JI)Z" } : Jvm.MethodName) ({ cls := "SurveyStore$BlockTable", name := "read", desc := "([JI)Z" } : Jvm.MethodName)) ∈ zTW := zin2 (List.mem_of_getElem? (i := 88) rfl)
theorem q329 : (Jvm.Cond.code ({ cls := "SurveyStore$BlockTable", name := "read", desc := "([JI)Z" } : Jvm.MethodName) prog_3_method_4_code (7 : Nat) (Option.some Jvm.ClassFile.FieldType.boolean)) ∈ zTW := zin2 (List.mem_of_getElem? (i := 89) rfl)
theorem q330 : (Jvm.Cond.methodLinkNest "SurveyStore$BlockTable" (39 : Nat) ({ cls := "SurveyStore", name := "valueOf", desc := "(J)I" } : Jvm.MethodName) "SurveyStore") ∈ zTW := zin2 (List.mem_of_getElem? (i := 90) rfl)
theorem q331 : (Jvm.Cond.constant "SurveyStore$BlockTable" (43 : Nat) (-2147483648 : Int32)) ∈ zTW := zin2 (List.mem_of_getElem? (i := 91) rfl)
theorem q332 : (Jvm.Cond.methodLink "SurveyStore$BlockTable" (36 : Nat) ({ cls := "SurveyStore$BlockTable", name := "keepIfNew", desc := "()V" } : Jvm.MethodName)) ∈ zTW := zin2 (List.mem_of_getElem? (i := 92) rfl)
theorem q333 : (Jvm.Cond.instanceMethod ({ cls := "SurveyStore$BlockTable", name := "keepIfNew", desc := "()V" } : Jvm.MethodName)) ∈ zTW := zin2 (List.mem_of_getElem? (i := 93) rfl)
theorem q334 : (Jvm.Cond.selects "SurveyStore$BlockTable" ({ cls := "SurveyStore$BlockTable", name := "keepIfNew", desc := "()V" } : Jvm.MethodName) ({ cls := "SurveyStore$BlockTable", name := "keepIfNew", desc := "()V" } : Jvm.MethodName)) ∈ zTW := zin2 (List.mem_of_getElem? (i := 94) rfl)
theorem q335 : (Jvm.Cond.code ({ cls := "SurveyStore$BlockTable", name := "keepIfNew", desc := "()V" } : Jvm.MethodName) prog_3_method_5_code (3 : Nat) (Option.none : Option Jvm.ClassFile.FieldType)) ∈ zTW := zin2 (List.mem_of_getElem? (i := 95) rfl)
theorem q336 : (Jvm.Cond.methodLink "SurveyStore$BlockTable" (44 : Nat) ({ cls := "SurveyStore$BlockTable", name := "hash", desc := "(I)I" } : Jvm.MethodName)) ∈ zTW := zin2 (List.mem_of_getElem? (i := 96) rfl)
theorem q337 : (Jvm.Cond.instanceMethod ({ cls := "SurveyStore$BlockTable", name := "hash", desc := "(I)I" } : Jvm.MethodName)) ∈ zTW := zin2 (List.mem_of_getElem? (i := 97) rfl)
theorem q338 : (Jvm.Cond.selects "SurveyStore$BlockTable" ({ cls := "SurveyStore$BlockTable", name := "hash", desc := "(I)I" } : Jvm.MethodName) ({ cls := "SurveyStore$BlockTable", name := "hash", desc := "(I)I" } : Jvm.MethodName)) ∈ zTW := zin2 (List.mem_of_getElem? (i := 98) rfl)
theorem q339 : (Jvm.Cond.code ({ cls := "SurveyStore$BlockTable", name := "hash", desc := "(I)I" } : Jvm.MethodName) prog_3_method_6_code (5 : Nat) (Option.some Jvm.ClassFile.FieldType.int)) ∈ zTW := zin2 (List.mem_of_getElem? (i := 99) rfl)
theorem q340 : (Jvm.Cond.constant "SurveyStore$BlockTable" (52 : Nat) (-1640531535 : Int32)) ∈ zTW := zin2 (List.mem_of_getElem? (i := 100) rfl)
theorem q341 : (Jvm.Cond.methodLink "SurveyStore$BlockTable" (48 : Nat) ({ cls := "SurveyStore$BlockTable", name := "isSame", desc := "(II)Z" } : Jvm.MethodName)) ∈ zTW := zin2 (List.mem_of_getElem? (i := 101) rfl)
theorem q342 : (Jvm.Cond.instanceMethod ({ cls := "SurveyStore$BlockTable", name := "isSame", desc := "(II)Z" } : Jvm.MethodName)) ∈ zTW := zin2 (List.mem_of_getElem? (i := 102) rfl)
theorem q343 : (Jvm.Cond.selects "SurveyStore$BlockTable" ({ cls := "SurveyStore$BlockTable", name := "isSame", desc := "(II)Z" } : Jvm.MethodName) ({ cls := "SurveyStore$BlockTable", name := "isSame", desc := "(II)Z" } : Jvm.MethodName)) ∈ zTW := zin2 (List.mem_of_getElem? (i := 103) rfl)
theorem q344 : (Jvm.Cond.code ({ cls := "SurveyStore$BlockTable", name := "isSame", desc := "(II)Z" } : Jvm.MethodName) prog_3_method_7_code (6 : Nat) (Option.some Jvm.ClassFile.FieldType.boolean)) ∈ zTW := zin2 (List.mem_of_getElem? (i := 104) rfl)
theorem q345 : (Jvm.Cond.methodLink "SurveyStoreLaw" (59 : Nat) ({ cls := "SurveyStoreLaw", name := "branch", desc := "(LSurveyStore;II)I" } : Jvm.MethodName)) ∈ zTW := zin2 (List.mem_of_getElem? (i := 105) rfl)
theorem q346 : (Jvm.Cond.static ({ cls := "SurveyStoreLaw", name := "branch", desc := "(LSurveyStore;II)I" } : Jvm.MethodName)) ∈ zTW := zin2 (List.mem_of_getElem? (i := 106) rfl)
theorem q347 : (Jvm.Cond.codeWith ({ cls := "SurveyStoreLaw", name := "branch", desc := "(LSurveyStore;II)I" } : Jvm.MethodName) method_3_code (4 : Nat) (Option.some Jvm.ClassFile.FieldType.int) [((0 : Nat), (6 : Nat), (9 : Nat), (13 : Nat)), ((0 : Nat), (6 : Nat), (12 : Nat), (15 : Nat))]) ∈ zTW := zin2 (List.mem_of_getElem? (i := 107) rfl)
theorem q348 : (Jvm.Cond.classLink "SurveyStoreLaw" (13 : Nat) "java/lang/IllegalArgumentException") ∈ zTW := zin2 (List.mem_of_getElem? (i := 108) rfl)
theorem q349 : (Jvm.Cond.classLink "SurveyStoreLaw" (15 : Nat) "java/lang/IllegalStateException") ∈ zTW := zin2 (List.mem_of_getElem? (i := 109) rfl)
theorem q350 : (Jvm.Cond.methodLink "SurveyStoreLaw" (7 : Nat) ({ cls := "SurveyStore", name := "branch", desc := "(II)V" } : Jvm.MethodName)) ∈ zTW := zin2 (List.mem_of_getElem? (i := 110) rfl)
theorem q351 : (Jvm.Cond.instanceMethod ({ cls := "SurveyStore", name := "branch", desc := "(II)V" } : Jvm.MethodName)) ∈ zTW := zin2 (List.mem_of_getElem? (i := 111) rfl)
theorem q352 : (Jvm.Cond.selects "SurveyStore" ({ cls := "SurveyStore", name := "branch", desc := "(II)V" } : Jvm.MethodName) ({ cls := "SurveyStore", name := "branch", desc := "(II)V" } : Jvm.MethodName)) ∈ zTW := zin2 (List.mem_of_getElem? (i := 112) rfl)
theorem q353 : (Jvm.Cond.code ({ cls := "SurveyStore", name := "branch", desc := "(II)V" } : Jvm.MethodName) prog_1_method_3_code (4 : Nat) (Option.none : Option Jvm.ClassFile.FieldType)) ∈ zTW := zin2 (List.mem_of_getElem? (i := 113) rfl)
theorem q354 : (Jvm.Cond.classLink "SurveyStore" (81 : Nat) "java/lang/IllegalArgumentException") ∈ zTW := zin2 (List.mem_of_getElem? (i := 114) rfl)
theorem q355 : (Jvm.Cond.instantiable "java/lang/IllegalArgumentException" (6 : Nat)) ∈ zTW := zin2 (List.mem_of_getElem? (i := 115) rfl)
theorem q356 : (Jvm.Cond.castable "java/lang/IllegalArgumentException" "java/lang/IllegalArgumentException") ∈ zTW := zin2 (List.mem_of_getElem? (i := 116) rfl)
theorem q357 : (Jvm.Cond.declares ({ cls := "java/lang/RuntimeException", name := "<init>", desc := "()V" } : Jvm.MethodName)) ∈ zTW := zin2 (List.mem_of_getElem? (i := 117) rfl)
theorem q358 : (Jvm.Cond.declares ({ cls := "java/lang/RuntimeException", name := "<init>", desc := "(Ljava/lang/String;)V" } : Jvm.MethodName)) ∈ zTW := zin2 (List.mem_of_getElem? (i := 118) rfl)
theorem q359 : (Jvm.Cond.declares ({ cls := "java/lang/Exception", name := "<init>", desc := "()V" } : Jvm.MethodName)) ∈ zTW := zin2 (List.mem_of_getElem? (i := 119) rfl)
theorem q360 : (Jvm.Cond.declares ({ cls := "java/lang/Exception", name := "<init>", desc := "(Ljava/lang/String;)V" } : Jvm.MethodName)) ∈ zTW := zin2 (List.mem_of_getElem? (i := 120) rfl)
theorem q361 : (Jvm.Cond.declares ({ cls := "java/lang/Throwable", name := "<init>", desc := "()V" } : Jvm.MethodName)) ∈ zTW := zin2 (List.mem_of_getElem? (i := 121) rfl)
theorem q362 : (Jvm.Cond.declares ({ cls := "java/lang/Throwable", name := "<init>", desc := "(Ljava/lang/String;)V" } : Jvm.MethodName)) ∈ zTW := zin2 (List.mem_of_getElem? (i := 122) rfl)
theorem q363 : (Jvm.Cond.selects "java/lang/IllegalArgumentException" ({ cls := "java/lang/Throwable", name := "fillInStackTrace", desc := "(I)Ljava/lang/Throwable;" } : Jvm.MethodName) ({ cls := "java/lang/Throwable", name := "fillInStackTrace", desc := "(I)Ljava/lang/Throwable;" } : Jvm.MethodName)) ∈ zTW := zin2 (List.mem_of_getElem? (i := 123) rfl)
theorem q364 : (Jvm.Cond.selects "java/lang/IllegalArgumentException" ({ cls := "java/lang/Throwable", name := "fillInStackTrace", desc := "()Ljava/lang/Throwable;" } : Jvm.MethodName) ({ cls := "java/lang/Throwable", name := "fillInStackTrace", desc := "()Ljava/lang/Throwable;" } : Jvm.MethodName)) ∈ zTW := zin2 (List.mem_of_getElem? (i := 124) rfl)
theorem q365 : (Jvm.Cond.lays "java/lang/IllegalArgumentException" "java/lang/Throwable" "cause" "Ljava/lang/Throwable;") ∈ zTW := zin2 (List.mem_of_getElem? (i := 125) rfl)
theorem q366 : (Jvm.Cond.lays "java/lang/Throwable" "java/lang/Throwable" "cause" "Ljava/lang/Throwable;") ∈ zTW := zin2 (List.mem_of_getElem? (i := 126) rfl)
theorem q367 : (Jvm.Cond.lays "java/lang/IllegalArgumentException" "java/lang/Throwable" "stackTrace" "[Ljava/lang/StackTraceElement;") ∈ zTW := zin2 (List.mem_of_getElem? (i := 127) rfl)
theorem q368 : (Jvm.Cond.lays "java/lang/Throwable" "java/lang/Throwable" "stackTrace" "[Ljava/lang/StackTraceElement;") ∈ zTW := zin2 (List.mem_of_getElem? (i := 128) rfl)
theorem q369 : (Jvm.Cond.lays "java/lang/IllegalArgumentException" "java/lang/Throwable" "suppressedExceptions" "Ljava/util/List;") ∈ zTW := zin2 (List.mem_of_getElem? (i := 129) rfl)
theorem q370 : (Jvm.Cond.lays "java/lang/Throwable" "java/lang/Throwable" "suppressedExceptions" "Ljava/util/List;") ∈ zTW := zin2 (List.mem_of_getElem? (i := 130) rfl)
theorem q371 : (Jvm.Cond.lays "java/lang/IllegalArgumentException" "java/lang/Throwable" "detailMessage" "Ljava/lang/String;") ∈ zTW := zin2 (List.mem_of_getElem? (i := 131) rfl)
theorem q372 : (Jvm.Cond.lays "java/lang/Throwable" "java/lang/Throwable" "detailMessage" "Ljava/lang/String;") ∈ zTW := zin2 (List.mem_of_getElem? (i := 132) rfl)
theorem q373 : (Jvm.Cond.lays "java/lang/IllegalArgumentException" "java/lang/Throwable" "backtrace" "Ljava/lang/Object;") ∈ zTW := zin2 (List.mem_of_getElem? (i := 133) rfl)
theorem q374 : (Jvm.Cond.lays "java/lang/Throwable" "java/lang/Throwable" "backtrace" "Ljava/lang/Object;") ∈ zTW := zin2 (List.mem_of_getElem? (i := 134) rfl)
theorem q375 : (Jvm.Cond.fieldLink "java/lang/Throwable" (198 : Nat) "java/lang/Throwable" "backtrace" "Ljava/lang/Object;") ∈ zTW := zin2 (List.mem_of_getElem? (i := 135) rfl)
theorem q376 : (Jvm.Cond.superclass "java/lang/Throwable" "java/lang/Object") ∈ zTW := zin2 (List.mem_of_getElem? (i := 136) rfl)
theorem q377 : (Jvm.Cond.instanceMethod ({ cls := "java/lang/Throwable", name := "<init>", desc := "()V" } : Jvm.MethodName)) ∈ zTW := zin2 (List.mem_of_getElem? (i := 137) rfl)
theorem q378 : (Jvm.Cond.code ({ cls := "java/lang/Throwable", name := "<init>", desc := "()V" } : Jvm.MethodName) prog_16_method_1_code (1 : Nat) (Option.none : Option Jvm.ClassFile.FieldType)) ∈ zTW := zin2 (List.mem_of_getElem? (i := 138) rfl)
theorem q379 : (Jvm.Cond.methodLink "java/lang/Throwable" (1 : Nat) ({ cls := "java/lang/Object", name := "<init>", desc := "()V" } : Jvm.MethodName)) ∈ zTW := zin2 (List.mem_of_getElem? (i := 139) rfl)
theorem q380 : (Jvm.Cond.fieldLink "java/lang/Throwable" (13 : Nat) "java/lang/Throwable" "UNASSIGNED_STACK" "[Ljava/lang/StackTraceElement;") ∈ zTW := zin2 (List.mem_of_getElem? (i := 140) rfl)
theorem q381 : (Jvm.Cond.laysStatic "java/lang/Throwable" "UNASSIGNED_STACK" "[Ljava/lang/StackTraceElement;") ∈ zTW := zin2 (List.mem_of_getElem? (i := 141) rfl)
theorem q382 : (Jvm.Cond.fieldLink "java/lang/Throwable" (20 : Nat) "java/lang/Throwable" "SUPPRESSED_SENTINEL" "Ljava/util/List;") ∈ zTW := zin2 (List.mem_of_getElem? (i := 142) rfl)
theorem q383 : (Jvm.Cond.laysStatic "java/lang/Throwable" "SUPPRESSED_SENTINEL" "Ljava/util/List;") ∈ zTW := zin2 (List.mem_of_getElem? (i := 143) rfl)
theorem q384 : (Jvm.Cond.methodLink "java/lang/Throwable" (27 : Nat) ({ cls := "java/lang/Throwable", name := "fillInStackTrace", desc := "()Ljava/lang/Throwable;" } : Jvm.MethodName)) ∈ zTW := zin2 (List.mem_of_getElem? (i := 144) rfl)
theorem q385 : (Jvm.Cond.instanceMethod ({ cls := "java/lang/Throwable", name := "fillInStackTrace", desc := "()Ljava/lang/Throwable;" } : Jvm.MethodName)) ∈ zTW := zin2 (List.mem_of_getElem? (i := 145) rfl)
theorem q386 : (Jvm.Cond.sameMethod "java/lang/Throwable" "java/lang/Throwable" "fillInStackTrace" "()Ljava/lang/Throwable;") ∈ zTW := zin2 (List.mem_of_getElem? (i := 146) rfl)
theorem q387 : (Jvm.Cond.selects "java/lang/IllegalStateException" ({ cls := "java/lang/Throwable", name := "fillInStackTrace", desc := "()Ljava/lang/Throwable;" } : Jvm.MethodName) ({ cls := "java/lang/Throwable", name := "fillInStackTrace", desc := "()Ljava/lang/Throwable;" } : Jvm.MethodName)) ∈ zTW := zin2 (List.mem_of_getElem? (i := 147) rfl)
theorem q388 : (Jvm.Cond.codeSync ({ cls := "java/lang/Throwable", name := "fillInStackTrace", desc := "()Ljava/lang/Throwable;" } : Jvm.MethodName) prog_16_method_18_code (1 : Nat) (Option.some (Jvm.ClassFile.FieldType.object "java/lang/Throwable"))) ∈ zTW := zin2 (List.mem_of_getElem? (i := 148) rfl)
theorem q389 : (Jvm.Cond.methodLink "java/lang/Throwable" (202 : Nat) ({ cls := "java/lang/Throwable", name := "fillInStackTrace", desc := "(I)Ljava/lang/Throwable;" } : Jvm.MethodName)) ∈ zTW := zin2 (List.mem_of_getElem? (i := 149) rfl)
theorem q390 : (Jvm.Cond.privateMethod ({ cls := "java/lang/Throwable", name := "fillInStackTrace", desc := "(I)Ljava/lang/Throwable;" } : Jvm.MethodName)) ∈ zTW := zin2 (List.mem_of_getElem? (i := 150) rfl)
theorem q391 : (Jvm.Cond.instanceMethod ({ cls := "java/lang/Throwable", name := "fillInStackTrace", desc := "(I)Ljava/lang/Throwable;" } : Jvm.MethodName)) ∈ zTW := zin2 (List.mem_of_getElem? (i := 151) rfl)
theorem q392 : (Jvm.Cond.instantiable "java/lang/Throwable" (6 : Nat)) ∈ zTW := zin2 (List.mem_of_getElem? (i := 152) rfl)
theorem q393 : (Jvm.Cond.native ({ cls := "java/lang/Throwable", name := "fillInStackTrace", desc := "(I)Ljava/lang/Throwable;" } : Jvm.MethodName)) ∈ zTW := zin2 (List.mem_of_getElem? (i := 153) rfl)
theorem q394 : (Jvm.Cond.methodLink "SurveyStore" (83 : Nat) ({ cls := "java/lang/IllegalArgumentException", name := "<init>", desc := "()V" } : Jvm.MethodName)) ∈ zTW := zin2 (List.mem_of_getElem? (i := 154) rfl)
theorem q395 : (Jvm.Cond.instanceMethod ({ cls := "java/lang/IllegalArgumentException", name := "<init>", desc := "()V" } : Jvm.MethodName)) ∈ zTW := zin2 (List.mem_of_getElem? (i := 155) rfl)
theorem q396 : (Jvm.Cond.code ({ cls := "java/lang/IllegalArgumentException", name := "<init>", desc := "()V" } : Jvm.MethodName) prog_11_method_1_code (1 : Nat) (Option.none : Option Jvm.ClassFile.FieldType)) ∈ zTW := zin2 (List.mem_of_getElem? (i := 156) rfl)
theorem q397 : (Jvm.Cond.methodLink "java/lang/IllegalArgumentException" (1 : Nat) ({ cls := "java/lang/RuntimeException", name := "<init>", desc := "()V" } : Jvm.MethodName)) ∈ zTW := zin2 (List.mem_of_getElem? (i := 157) rfl)
theorem q398 : (Jvm.Cond.instanceMethod ({ cls := "java/lang/RuntimeException", name := "<init>", desc := "()V" } : Jvm.MethodName)) ∈ zTW := zin2 (List.mem_of_getElem? (i := 158) rfl)
theorem q399 : (Jvm.Cond.code ({ cls := "java/lang/RuntimeException", name := "<init>", desc := "()V" } : Jvm.MethodName) prog_14_method_1_code (1 : Nat) (Option.none : Option Jvm.ClassFile.FieldType)) ∈ zTW := zin2 (List.mem_of_getElem? (i := 159) rfl)
theorem q400 : (Jvm.Cond.methodLink "java/lang/RuntimeException" (1 : Nat) ({ cls := "java/lang/Exception", name := "<init>", desc := "()V" } : Jvm.MethodName)) ∈ zTW := zin2 (List.mem_of_getElem? (i := 160) rfl)
theorem q401 : (Jvm.Cond.instanceMethod ({ cls := "java/lang/Exception", name := "<init>", desc := "()V" } : Jvm.MethodName)) ∈ zTW := zin2 (List.mem_of_getElem? (i := 161) rfl)
theorem q402 : (Jvm.Cond.code ({ cls := "java/lang/Exception", name := "<init>", desc := "()V" } : Jvm.MethodName) prog_10_method_1_code (1 : Nat) (Option.none : Option Jvm.ClassFile.FieldType)) ∈ zTW := zin2 (List.mem_of_getElem? (i := 162) rfl)
theorem q403 : (Jvm.Cond.methodLink "java/lang/Exception" (1 : Nat) ({ cls := "java/lang/Throwable", name := "<init>", desc := "()V" } : Jvm.MethodName)) ∈ zTW := zin2 (List.mem_of_getElem? (i := 163) rfl)
theorem q404 : (Jvm.Cond.fieldLink "java/lang/Throwable" (198 : Nat) "java/lang/Throwable" "backtrace" "Ljava/lang/Object;") ∈ zTW := zin2 (List.mem_of_getElem? (i := 164) rfl)
theorem q405 : (Jvm.Cond.fieldLink "java/lang/Throwable" (7 : Nat) "java/lang/Throwable" "cause" "Ljava/lang/Throwable;") ∈ zTW := zin2 (List.mem_of_getElem? (i := 165) rfl)
theorem q406 : (Jvm.Cond.fieldLink "java/lang/Throwable" (17 : Nat) "java/lang/Throwable" "stackTrace" "[Ljava/lang/StackTraceElement;") ∈ zTW := zin2 (List.mem_of_getElem? (i := 166) rfl)
theorem q407 : (Jvm.Cond.fieldLink "java/lang/Throwable" (24 : Nat) "java/lang/Throwable" "suppressedExceptions" "Ljava/util/List;") ∈ zTW := zin2 (List.mem_of_getElem? (i := 167) rfl)
theorem q408 : (Jvm.Cond.soleField "java/lang/Throwable" "backtrace") ∈ zTW := zin2 (List.mem_of_getElem? (i := 168) rfl)
theorem q409 : (Jvm.Cond.soleField "java/lang/Throwable" "detailMessage") ∈ zTW := zin2 (List.mem_of_getElem? (i := 169) rfl)
theorem q410 : (Jvm.Cond.soleField "java/lang/Throwable" "cause") ∈ zTW := zin2 (List.mem_of_getElem? (i := 170) rfl)
theorem q411 : (Jvm.Cond.soleField "java/lang/Throwable" "stackTrace") ∈ zTW := zin2 (List.mem_of_getElem? (i := 171) rfl)
theorem q412 : (Jvm.Cond.lays "java/lang/IllegalArgumentException" "java/lang/Throwable" "depth" "I") ∈ zTW := zin2 (List.mem_of_getElem? (i := 172) rfl)
theorem q413 : (Jvm.Cond.soleField "java/lang/Throwable" "depth") ∈ zTW := zin2 (List.mem_of_getElem? (i := 173) rfl)
theorem q414 : (Jvm.Cond.soleField "java/lang/Throwable" "suppressedExceptions") ∈ zTW := zin2 (List.mem_of_getElem? (i := 174) rfl)
theorem q415 : (Jvm.Cond.superclass "java/lang/IllegalArgumentException" "java/lang/RuntimeException") ∈ zTW := zin2 (List.mem_of_getElem? (i := 175) rfl)
theorem q416 : (Jvm.Cond.classLink "SurveyStore" (88 : Nat) "java/lang/IllegalStateException") ∈ zTW := zin2 (List.mem_of_getElem? (i := 176) rfl)
theorem q417 : (Jvm.Cond.instantiable "java/lang/IllegalStateException" (6 : Nat)) ∈ zTW := zin2 (List.mem_of_getElem? (i := 177) rfl)
theorem q418 : (Jvm.Cond.castable "java/lang/IllegalStateException" "java/lang/IllegalStateException") ∈ zTW := zin2 (List.mem_of_getElem? (i := 178) rfl)
theorem q419 : (Jvm.Cond.selects "java/lang/IllegalStateException" ({ cls := "java/lang/Throwable", name := "fillInStackTrace", desc := "(I)Ljava/lang/Throwable;" } : Jvm.MethodName) ({ cls := "java/lang/Throwable", name := "fillInStackTrace", desc := "(I)Ljava/lang/Throwable;" } : Jvm.MethodName)) ∈ zTW := zin2 (List.mem_of_getElem? (i := 179) rfl)
theorem q420 : (Jvm.Cond.lays "java/lang/IllegalStateException" "java/lang/Throwable" "cause" "Ljava/lang/Throwable;") ∈ zTW := zin2 (List.mem_of_getElem? (i := 180) rfl)
theorem q421 : (Jvm.Cond.lays "java/lang/IllegalStateException" "java/lang/Throwable" "stackTrace" "[Ljava/lang/StackTraceElement;") ∈ zTW := zin2 (List.mem_of_getElem? (i := 181) rfl)
theorem q422 : (Jvm.Cond.lays "java/lang/IllegalStateException" "java/lang/Throwable" "suppressedExceptions" "Ljava/util/List;") ∈ zTW := zin2 (List.mem_of_getElem? (i := 182) rfl)
theorem q423 : (Jvm.Cond.lays "java/lang/IllegalStateException" "java/lang/Throwable" "detailMessage" "Ljava/lang/String;") ∈ zTW := zin2 (List.mem_of_getElem? (i := 183) rfl)
theorem q424 : (Jvm.Cond.lays "java/lang/IllegalStateException" "java/lang/Throwable" "backtrace" "Ljava/lang/Object;") ∈ zTW := zin2 (List.mem_of_getElem? (i := 184) rfl)
theorem q425 : (Jvm.Cond.methodLink "SurveyStore" (90 : Nat) ({ cls := "java/lang/IllegalStateException", name := "<init>", desc := "()V" } : Jvm.MethodName)) ∈ zTW := zin2 (List.mem_of_getElem? (i := 185) rfl)
theorem q426 : (Jvm.Cond.instanceMethod ({ cls := "java/lang/IllegalStateException", name := "<init>", desc := "()V" } : Jvm.MethodName)) ∈ zTW := zin2 (List.mem_of_getElem? (i := 186) rfl)
theorem q427 : (Jvm.Cond.code ({ cls := "java/lang/IllegalStateException", name := "<init>", desc := "()V" } : Jvm.MethodName) prog_12_method_1_code (1 : Nat) (Option.none : Option Jvm.ClassFile.FieldType)) ∈ zTW := zin2 (List.mem_of_getElem? (i := 187) rfl)
theorem q428 : (Jvm.Cond.methodLink "java/lang/IllegalStateException" (1 : Nat) ({ cls := "java/lang/RuntimeException", name := "<init>", desc := "()V" } : Jvm.MethodName)) ∈ zTW := zin2 (List.mem_of_getElem? (i := 188) rfl)
theorem q429 : (Jvm.Cond.lays "java/lang/IllegalStateException" "java/lang/Throwable" "depth" "I") ∈ zTW := zin2 (List.mem_of_getElem? (i := 189) rfl)
theorem q430 : (Jvm.Cond.superclass "java/lang/IllegalStateException" "java/lang/RuntimeException") ∈ zTW := zin2 (List.mem_of_getElem? (i := 190) rfl)
theorem q431 : (Jvm.Cond.methodLink "SurveyStoreLaw" (79 : Nat) ({ cls := "SurveyStoreLaw", name := "paint", desc := "(LSurveyStore;III)I" } : Jvm.MethodName)) ∈ zTW := zin2 (List.mem_of_getElem? (i := 191) rfl)
theorem q432 : (Jvm.Cond.static ({ cls := "SurveyStoreLaw", name := "paint", desc := "(LSurveyStore;III)I" } : Jvm.MethodName)) ∈ zTW := zin2 (List.mem_of_getElem? (i := 192) rfl)
theorem q433 : (Jvm.Cond.codeWith ({ cls := "SurveyStoreLaw", name := "paint", desc := "(LSurveyStore;III)I" } : Jvm.MethodName) method_4_code (5 : Nat) (Option.some Jvm.ClassFile.FieldType.int) [((0 : Nat), (7 : Nat), (10 : Nat), (13 : Nat))]) ∈ zTW := zin2 (List.mem_of_getElem? (i := 193) rfl)
theorem q434 : (Jvm.Cond.methodLink "SurveyStoreLaw" (17 : Nat) ({ cls := "SurveyStore", name := "paint", desc := "(III)V" } : Jvm.MethodName)) ∈ zTW := zin2 (List.mem_of_getElem? (i := 194) rfl)
theorem q435 : (Jvm.Cond.instanceMethod ({ cls := "SurveyStore", name := "paint", desc := "(III)V" } : Jvm.MethodName)) ∈ zTW := zin2 (List.mem_of_getElem? (i := 195) rfl)
theorem q436 : (Jvm.Cond.selects "SurveyStore" ({ cls := "SurveyStore", name := "paint", desc := "(III)V" } : Jvm.MethodName) ({ cls := "SurveyStore", name := "paint", desc := "(III)V" } : Jvm.MethodName)) ∈ zTW := zin2 (List.mem_of_getElem? (i := 196) rfl)
theorem q437 : (Jvm.Cond.code ({ cls := "SurveyStore", name := "paint", desc := "(III)V" } : Jvm.MethodName) prog_1_method_6_code (7 : Nat) (Option.none : Option Jvm.ClassFile.FieldType)) ∈ zTW := zin2 (List.mem_of_getElem? (i := 197) rfl)
theorem q438 : (Jvm.Cond.methodLink "SurveyStore" (109 : Nat) ({ cls := "SurveyStore", name := "branchToEdit", desc := "(II)LSurveyStore$Branch;" } : Jvm.MethodName)) ∈ zTW := zin2 (List.mem_of_getElem? (i := 198) rfl)
theorem q439 : (Jvm.Cond.privateMethod ({ cls := "SurveyStore", name := "branchToEdit", desc := "(II)LSurveyStore$Branch;" } : Jvm.MethodName)) ∈ zTW := zin2 (List.mem_of_getElem? (i := 199) rfl)
theorem q440 : (Jvm.Cond.instanceMethod ({ cls := "SurveyStore", name := "branchToEdit", desc := "(II)LSurveyStore$Branch;" } : Jvm.MethodName)) ∈ zTW := zin2 (List.mem_of_getElem? (i := 200) rfl)
theorem q441 : (Jvm.Cond.code ({ cls := "SurveyStore", name := "branchToEdit", desc := "(II)LSurveyStore$Branch;" } : Jvm.MethodName) prog_1_method_46_code (4 : Nat) (Option.some (Jvm.ClassFile.FieldType.object "SurveyStore$Branch"))) ∈ zTW := zin2 (List.mem_of_getElem? (i := 201) rfl)
theorem q442 : (Jvm.Cond.methodLink "SurveyStore" (113 : Nat) ({ cls := "SurveyStore", name := "refuseUnlessValue", desc := "(I)V" } : Jvm.MethodName)) ∈ zTW := zin2 (List.mem_of_getElem? (i := 202) rfl)
theorem q443 : (Jvm.Cond.static ({ cls := "SurveyStore", name := "refuseUnlessValue", desc := "(I)V" } : Jvm.MethodName)) ∈ zTW := zin2 (List.mem_of_getElem? (i := 203) rfl)
theorem q444 : (Jvm.Cond.code ({ cls := "SurveyStore", name := "refuseUnlessValue", desc := "(I)V" } : Jvm.MethodName) prog_1_method_47_code (1 : Nat) (Option.none : Option Jvm.ClassFile.FieldType)) ∈ zTW := zin2 (List.mem_of_getElem? (i := 204) rfl)
theorem q445 : (Jvm.Cond.methodLink "SurveyStore" (121 : Nat) ({ cls := "SurveyStore$Branch", name := "set", desc := "(II)V" } : Jvm.MethodName)) ∈ zTW := zin2 (List.mem_of_getElem? (i := 205) rfl)
theorem q446 : (Jvm.Cond.instanceMethod ({ cls := "SurveyStore$Branch", name := "set", desc := "(II)V" } : Jvm.MethodName)) ∈ zTW := zin2 (List.mem_of_getElem? (i := 206) rfl)
theorem q447 : (Jvm.Cond.selects "SurveyStore$Branch" ({ cls := "SurveyStore$Branch", name := "set", desc := "(II)V" } : Jvm.MethodName) ({ cls := "SurveyStore$Branch", name := "set", desc := "(II)V" } : Jvm.MethodName)) ∈ zTW := zin2 (List.mem_of_getElem? (i := 207) rfl)
theorem q448 : (Jvm.Cond.code ({ cls := "SurveyStore$Branch", name := "set", desc := "(II)V" } : Jvm.MethodName) prog_4_method_6_code (3 : Nat) (Option.none : Option Jvm.ClassFile.FieldType)) ∈ zTW := zin2 (List.mem_of_getElem? (i := 208) rfl)
theorem q449 : (Jvm.Cond.constant "SurveyStore$Branch" (49 : Nat) (-2147483648 : Int32)) ∈ zTW := zin2 (List.mem_of_getElem? (i := 209) rfl)
theorem q450 : (Jvm.Cond.constantLong "SurveyStore$Branch" (50 : Nat) (-9223372036854775808 : Int64)) ∈ zTW := zin2 (List.mem_of_getElem? (i := 210) rfl)
theorem q451 : (Jvm.Cond.methodLinkNest "SurveyStore$Branch" (52 : Nat) ({ cls := "SurveyStore", name := "originOf", desc := "(II)I" } : Jvm.MethodName) "SurveyStore") ∈ zTW := zin2 (List.mem_of_getElem? (i := 211) rfl)
theorem q452 : (Jvm.Cond.static ({ cls := "SurveyStore", name := "originOf", desc := "(II)I" } : Jvm.MethodName)) ∈ zTW := zin2 (List.mem_of_getElem? (i := 212) rfl)
theorem q453 : (Jvm.Cond.code ({ cls := "SurveyStore", name := "originOf", desc := "(II)I" } : Jvm.MethodName) prog_1_method_37_code (2 : Nat) (Option.some Jvm.ClassFile.FieldType.int)) ∈ zTW := zin2 (List.mem_of_getElem? (i := 213) rfl)
theorem q454 : (Jvm.Cond.methodLinkNest "SurveyStore$Branch" (56 : Nat) ({ cls := "SurveyStore", name := "cellOf", desc := "(II)J" } : Jvm.MethodName) "SurveyStore") ∈ zTW := zin2 (List.mem_of_getElem? (i := 214) rfl)
theorem q455 : (Jvm.Cond.static ({ cls := "SurveyStore", name := "cellOf", desc := "(II)J" } : Jvm.MethodName)) ∈ zTW := zin2 (List.mem_of_getElem? (i := 215) rfl)
theorem q456 : (Jvm.Cond.code ({ cls := "SurveyStore", name := "cellOf", desc := "(II)J" } : Jvm.MethodName) prog_1_method_35_code (2 : Nat) (Option.some Jvm.ClassFile.FieldType.long)) ∈ zTW := zin2 (List.mem_of_getElem? (i := 216) rfl)
theorem q457 : (Jvm.Cond.methodLink "SurveyStoreLaw" (88 : Nat) ({ cls := "SurveyStoreLaw", name := "polygon", desc := "(LSurveyStore;IIII)I" } : Jvm.MethodName)) ∈ zTW := zin2 (List.mem_of_getElem? (i := 217) rfl)
theorem q458 : (Jvm.Cond.static ({ cls := "SurveyStoreLaw", name := "polygon", desc := "(LSurveyStore;IIII)I" } : Jvm.MethodName)) ∈ zTW := zin2 (List.mem_of_getElem? (i := 218) rfl)
theorem q459 : (Jvm.Cond.codeWith ({ cls := "SurveyStoreLaw", name := "polygon", desc := "(LSurveyStore;IIII)I" } : Jvm.MethodName) method_5_code (6 : Nat) (Option.some Jvm.ClassFile.FieldType.int) [((0 : Nat), (9 : Nat), (12 : Nat), (13 : Nat))]) ∈ zTW := zin2 (List.mem_of_getElem? (i := 219) rfl)
theorem q460 : (Jvm.Cond.methodLink "SurveyStoreLaw" (21 : Nat) ({ cls := "SurveyStore", name := "polygon", desc := "(IIII)V" } : Jvm.MethodName)) ∈ zTW := zin2 (List.mem_of_getElem? (i := 220) rfl)
theorem q461 : (Jvm.Cond.instanceMethod ({ cls := "SurveyStore", name := "polygon", desc := "(IIII)V" } : Jvm.MethodName)) ∈ zTW := zin2 (List.mem_of_getElem? (i := 221) rfl)
theorem q462 : (Jvm.Cond.selects "SurveyStore" ({ cls := "SurveyStore", name := "polygon", desc := "(IIII)V" } : Jvm.MethodName) ({ cls := "SurveyStore", name := "polygon", desc := "(IIII)V" } : Jvm.MethodName)) ∈ zTW := zin2 (List.mem_of_getElem? (i := 222) rfl)
theorem q463 : (Jvm.Cond.code ({ cls := "SurveyStore", name := "polygon", desc := "(IIII)V" } : Jvm.MethodName) prog_1_method_8_code (8 : Nat) (Option.none : Option Jvm.ClassFile.FieldType)) ∈ zTW := zin2 (List.mem_of_getElem? (i := 223) rfl)
theorem q464 : (Jvm.Cond.methodLink "SurveyStore" (128 : Nat) ({ cls := "SurveyStore", name := "isInside", desc := "(III)Z" } : Jvm.MethodName)) ∈ zTW := zin2 (List.mem_of_getElem? (i := 224) rfl)
theorem q465 : (Jvm.Cond.privateMethod ({ cls := "SurveyStore", name := "isInside", desc := "(III)Z" } : Jvm.MethodName)) ∈ zTW := zin2 (List.mem_of_getElem? (i := 225) rfl)
theorem q466 : (Jvm.Cond.instanceMethod ({ cls := "SurveyStore", name := "isInside", desc := "(III)Z" } : Jvm.MethodName)) ∈ zTW := zin2 (List.mem_of_getElem? (i := 226) rfl)
theorem q467 : (Jvm.Cond.code ({ cls := "SurveyStore", name := "isInside", desc := "(III)Z" } : Jvm.MethodName) prog_1_method_49_code (6 : Nat) (Option.some Jvm.ClassFile.FieldType.boolean)) ∈ zTW := zin2 (List.mem_of_getElem? (i := 227) rfl)
theorem q468 : (Jvm.Cond.methodLink "SurveyStore" (293 : Nat) ({ cls := "SurveyStore", name := "isRightOf", desc := "(IIII)Z" } : Jvm.MethodName)) ∈ zTW := zin2 (List.mem_of_getElem? (i := 228) rfl)
theorem q469 : (Jvm.Cond.privateMethod ({ cls := "SurveyStore", name := "isRightOf", desc := "(IIII)Z" } : Jvm.MethodName)) ∈ zTW := zin2 (List.mem_of_getElem? (i := 229) rfl)
theorem q470 : (Jvm.Cond.instanceMethod ({ cls := "SurveyStore", name := "isRightOf", desc := "(IIII)Z" } : Jvm.MethodName)) ∈ zTW := zin2 (List.mem_of_getElem? (i := 230) rfl)
theorem q471 : (Jvm.Cond.code ({ cls := "SurveyStore", name := "isRightOf", desc := "(IIII)Z" } : Jvm.MethodName) prog_1_method_50_code (11 : Nat) (Option.some Jvm.ClassFile.FieldType.boolean)) ∈ zTW := zin2 (List.mem_of_getElem? (i := 231) rfl)
theorem q472 : (Jvm.Cond.methodLink "SurveyStoreLaw" (92 : Nat) ({ cls := "SurveyStoreLaw", name := "copy", desc := "(LSurveyStore;IIIIII)I" } : Jvm.MethodName)) ∈ zTW := zin2 (List.mem_of_getElem? (i := 232) rfl)
theorem q473 : (Jvm.Cond.static ({ cls := "SurveyStoreLaw", name := "copy", desc := "(LSurveyStore;IIIIII)I" } : Jvm.MethodName)) ∈ zTW := zin2 (List.mem_of_getElem? (i := 233) rfl)
theorem q474 : (Jvm.Cond.codeWith ({ cls := "SurveyStoreLaw", name := "copy", desc := "(LSurveyStore;IIIIII)I" } : Jvm.MethodName) method_6_code (8 : Nat) (Option.some Jvm.ClassFile.FieldType.int) [((0 : Nat), (13 : Nat), (16 : Nat), (13 : Nat))]) ∈ zTW := zin2 (List.mem_of_getElem? (i := 234) rfl)
theorem q475 : (Jvm.Cond.methodLink "SurveyStoreLaw" (25 : Nat) ({ cls := "SurveyStore", name := "copy", desc := "(IIIIII)V" } : Jvm.MethodName)) ∈ zTW := zin2 (List.mem_of_getElem? (i := 235) rfl)
theorem q476 : (Jvm.Cond.instanceMethod ({ cls := "SurveyStore", name := "copy", desc := "(IIIIII)V" } : Jvm.MethodName)) ∈ zTW := zin2 (List.mem_of_getElem? (i := 236) rfl)
theorem q477 : (Jvm.Cond.selects "SurveyStore" ({ cls := "SurveyStore", name := "copy", desc := "(IIIIII)V" } : Jvm.MethodName) ({ cls := "SurveyStore", name := "copy", desc := "(IIIIII)V" } : Jvm.MethodName)) ∈ zTW := zin2 (List.mem_of_getElem? (i := 237) rfl)
theorem q478 : (Jvm.Cond.code ({ cls := "SurveyStore", name := "copy", desc := "(IIIIII)V" } : Jvm.MethodName) prog_1_method_9_code (11 : Nat) (Option.none : Option Jvm.ClassFile.FieldType)) ∈ zTW := zin2 (List.mem_of_getElem? (i := 238) rfl)
theorem q479 : (Jvm.Cond.methodLink "SurveyStore" (133 : Nat) ({ cls := "java/lang/System", name := "arraycopy", desc := "(Ljava/lang/Object;ILjava/lang/Object;II)V" } : Jvm.MethodName)) ∈ zTW := zin2 (List.mem_of_getElem? (i := 239) rfl)
theorem q480 : (Jvm.Cond.methodLink "SurveyStoreLaw" (100 : Nat) ({ cls := "SurveyStoreLaw", name := "map", desc := "(LSurveyStore;II)I" } : Jvm.MethodName)) ∈ zTW := zin3 (List.mem_of_getElem? (i := 0) rfl)
theorem q481 : (Jvm.Cond.static ({ cls := "SurveyStoreLaw", name := "map", desc := "(LSurveyStore;II)I" } : Jvm.MethodName)) ∈ zTW := zin3 (List.mem_of_getElem? (i := 1) rfl)
theorem q482 : (Jvm.Cond.codeWith ({ cls := "SurveyStoreLaw", name := "map", desc := "(LSurveyStore;II)I" } : Jvm.MethodName) method_7_code (4 : Nat) (Option.some Jvm.ClassFile.FieldType.int) [((0 : Nat), (6 : Nat), (9 : Nat), (13 : Nat))]) ∈ zTW := zin3 (List.mem_of_getElem? (i := 2) rfl)
theorem q483 : (Jvm.Cond.methodLink "SurveyStoreLaw" (29 : Nat) ({ cls := "SurveyStore", name := "map", desc := "(II)V" } : Jvm.MethodName)) ∈ zTW := zin3 (List.mem_of_getElem? (i := 3) rfl)
theorem q484 : (Jvm.Cond.instanceMethod ({ cls := "SurveyStore", name := "map", desc := "(II)V" } : Jvm.MethodName)) ∈ zTW := zin3 (List.mem_of_getElem? (i := 4) rfl)
theorem q485 : (Jvm.Cond.selects "SurveyStore" ({ cls := "SurveyStore", name := "map", desc := "(II)V" } : Jvm.MethodName) ({ cls := "SurveyStore", name := "map", desc := "(II)V" } : Jvm.MethodName)) ∈ zTW := zin3 (List.mem_of_getElem? (i := 5) rfl)
theorem q486 : (Jvm.Cond.code ({ cls := "SurveyStore", name := "map", desc := "(II)V" } : Jvm.MethodName) prog_1_method_11_code (8 : Nat) (Option.none : Option Jvm.ClassFile.FieldType)) ∈ zTW := zin3 (List.mem_of_getElem? (i := 6) rfl)
theorem q487 : (Jvm.Cond.methodLink "SurveyStore" (146 : Nat) ({ cls := "SurveyStore", name := "mapped", desc := "(I)I" } : Jvm.MethodName)) ∈ zTW := zin3 (List.mem_of_getElem? (i := 7) rfl)
theorem q488 : (Jvm.Cond.privateMethod ({ cls := "SurveyStore", name := "mapped", desc := "(I)I" } : Jvm.MethodName)) ∈ zTW := zin3 (List.mem_of_getElem? (i := 8) rfl)
theorem q489 : (Jvm.Cond.instanceMethod ({ cls := "SurveyStore", name := "mapped", desc := "(I)I" } : Jvm.MethodName)) ∈ zTW := zin3 (List.mem_of_getElem? (i := 9) rfl)
theorem q490 : (Jvm.Cond.code ({ cls := "SurveyStore", name := "mapped", desc := "(I)I" } : Jvm.MethodName) prog_1_method_51_code (3 : Nat) (Option.some Jvm.ClassFile.FieldType.int)) ∈ zTW := zin3 (List.mem_of_getElem? (i := 10) rfl)
theorem q491 : (Jvm.Cond.methodLink "SurveyStore" (150 : Nat) ({ cls := "SurveyStore", name := "setIfOther", desc := "(LSurveyStore$Branch;II)V" } : Jvm.MethodName)) ∈ zTW := zin3 (List.mem_of_getElem? (i := 11) rfl)
theorem q492 : (Jvm.Cond.static ({ cls := "SurveyStore", name := "setIfOther", desc := "(LSurveyStore$Branch;II)V" } : Jvm.MethodName)) ∈ zTW := zin3 (List.mem_of_getElem? (i := 12) rfl)
theorem q493 : (Jvm.Cond.code ({ cls := "SurveyStore", name := "setIfOther", desc := "(LSurveyStore$Branch;II)V" } : Jvm.MethodName) prog_1_method_48_code (3 : Nat) (Option.none : Option Jvm.ClassFile.FieldType)) ∈ zTW := zin3 (List.mem_of_getElem? (i := 13) rfl)
theorem q494 : (Jvm.Cond.methodLink "SurveyStoreLaw" (103 : Nat) ({ cls := "SurveyStoreLaw", name := "combine", desc := "(LSurveyStore;IIII)I" } : Jvm.MethodName)) ∈ zTW := zin3 (List.mem_of_getElem? (i := 14) rfl)
theorem q495 : (Jvm.Cond.static ({ cls := "SurveyStoreLaw", name := "combine", desc := "(LSurveyStore;IIII)I" } : Jvm.MethodName)) ∈ zTW := zin3 (List.mem_of_getElem? (i := 15) rfl)
theorem q496 : (Jvm.Cond.codeWith ({ cls := "SurveyStoreLaw", name := "combine", desc := "(LSurveyStore;IIII)I" } : Jvm.MethodName) method_8_code (6 : Nat) (Option.some Jvm.ClassFile.FieldType.int) [((0 : Nat), (9 : Nat), (12 : Nat), (13 : Nat))]) ∈ zTW := zin3 (List.mem_of_getElem? (i := 16) rfl)
theorem q497 : (Jvm.Cond.methodLink "SurveyStoreLaw" (32 : Nat) ({ cls := "SurveyStore", name := "combine", desc := "(IIII)V" } : Jvm.MethodName)) ∈ zTW := zin3 (List.mem_of_getElem? (i := 17) rfl)
theorem q498 : (Jvm.Cond.instanceMethod ({ cls := "SurveyStore", name := "combine", desc := "(IIII)V" } : Jvm.MethodName)) ∈ zTW := zin3 (List.mem_of_getElem? (i := 18) rfl)
theorem q499 : (Jvm.Cond.selects "SurveyStore" ({ cls := "SurveyStore", name := "combine", desc := "(IIII)V" } : Jvm.MethodName) ({ cls := "SurveyStore", name := "combine", desc := "(IIII)V" } : Jvm.MethodName)) ∈ zTW := zin3 (List.mem_of_getElem? (i := 19) rfl)
theorem q500 : (Jvm.Cond.code ({ cls := "SurveyStore", name := "combine", desc := "(IIII)V" } : Jvm.MethodName) prog_1_method_12_code (11 : Nat) (Option.none : Option Jvm.ClassFile.FieldType)) ∈ zTW := zin3 (List.mem_of_getElem? (i := 20) rfl)
theorem q501 : (Jvm.Cond.methodLink "SurveyStore" (154 : Nat) ({ cls := "SurveyStore", name := "combined", desc := "(III)I" } : Jvm.MethodName)) ∈ zTW := zin3 (List.mem_of_getElem? (i := 21) rfl)
theorem q502 : (Jvm.Cond.static ({ cls := "SurveyStore", name := "combined", desc := "(III)I" } : Jvm.MethodName)) ∈ zTW := zin3 (List.mem_of_getElem? (i := 22) rfl)
theorem q503 : (Jvm.Cond.code ({ cls := "SurveyStore", name := "combined", desc := "(III)I" } : Jvm.MethodName) prog_1_method_52_code (3 : Nat) (Option.some Jvm.ClassFile.FieldType.int)) ∈ zTW := zin3 (List.mem_of_getElem? (i := 23) rfl)
theorem q504 : (Jvm.Cond.methodLink "SurveyStore" (252 : Nat) ({ cls := "java/lang/Math", name := "min", desc := "(II)I" } : Jvm.MethodName)) ∈ zTW := zin3 (List.mem_of_getElem? (i := 24) rfl)
theorem q505 : (Jvm.Cond.static ({ cls := "java/lang/Math", name := "min", desc := "(II)I" } : Jvm.MethodName)) ∈ zTW := zin3 (List.mem_of_getElem? (i := 25) rfl)
theorem q506 : (Jvm.Cond.code ({ cls := "java/lang/Math", name := "min", desc := "(II)I" } : Jvm.MethodName) prog_13_method_69_code (2 : Nat) (Option.some Jvm.ClassFile.FieldType.int)) ∈ zTW := zin3 (List.mem_of_getElem? (i := 26) rfl)
theorem q507 : (Jvm.Cond.methodLink "SurveyStore" (257 : Nat) ({ cls := "java/lang/Math", name := "max", desc := "(II)I" } : Jvm.MethodName)) ∈ zTW := zin3 (List.mem_of_getElem? (i := 27) rfl)
theorem q508 : (Jvm.Cond.static ({ cls := "java/lang/Math", name := "max", desc := "(II)I" } : Jvm.MethodName)) ∈ zTW := zin3 (List.mem_of_getElem? (i := 28) rfl)
theorem q509 : (Jvm.Cond.code ({ cls := "java/lang/Math", name := "max", desc := "(II)I" } : Jvm.MethodName) prog_13_method_65_code (2 : Nat) (Option.some Jvm.ClassFile.FieldType.int)) ∈ zTW := zin3 (List.mem_of_getElem? (i := 29) rfl)
theorem q510 : (Jvm.Cond.methodLink "SurveyStoreLaw" (106 : Nat) ({ cls := "SurveyStoreLaw", name := "commit", desc := "(LSurveyStore;I[J)I" } : Jvm.MethodName)) ∈ zTW := zin3 (List.mem_of_getElem? (i := 30) rfl)
theorem q511 : (Jvm.Cond.static ({ cls := "SurveyStoreLaw", name := "commit", desc := "(LSurveyStore;I[J)I" } : Jvm.MethodName)) ∈ zTW := zin3 (List.mem_of_getElem? (i := 31) rfl)
theorem q512 : (Jvm.Cond.codeWith ({ cls := "SurveyStoreLaw", name := "commit", desc := "(LSurveyStore;I[J)I" } : Jvm.MethodName) method_9_code (4 : Nat) (Option.some Jvm.ClassFile.FieldType.int) [((0 : Nat), (9 : Nat), (12 : Nat), (13 : Nat)), ((0 : Nat), (9 : Nat), (15 : Nat), (15 : Nat))]) ∈ zTW := zin3 (List.mem_of_getElem? (i := 32) rfl)
theorem q513 : (Jvm.Cond.methodLink "SurveyStoreLaw" (35 : Nat) ({ cls := "SurveyStore", name := "commit", desc := "(I)I" } : Jvm.MethodName)) ∈ zTW := zin3 (List.mem_of_getElem? (i := 33) rfl)
theorem q514 : (Jvm.Cond.instanceMethod ({ cls := "SurveyStore", name := "commit", desc := "(I)I" } : Jvm.MethodName)) ∈ zTW := zin3 (List.mem_of_getElem? (i := 34) rfl)
theorem q515 : (Jvm.Cond.selects "SurveyStore" ({ cls := "SurveyStore", name := "commit", desc := "(I)I" } : Jvm.MethodName) ({ cls := "SurveyStore", name := "commit", desc := "(I)I" } : Jvm.MethodName)) ∈ zTW := zin3 (List.mem_of_getElem? (i := 35) rfl)
theorem q516 : (Jvm.Cond.code ({ cls := "SurveyStore", name := "commit", desc := "(I)I" } : Jvm.MethodName) prog_1_method_13_code (5 : Nat) (Option.some Jvm.ClassFile.FieldType.int)) ∈ zTW := zin3 (List.mem_of_getElem? (i := 36) rfl)
theorem q517 : (Jvm.Cond.methodLink "SurveyStore" (161 : Nat) ({ cls := "SurveyStore$Branch", name := "hasUnsettled", desc := "()Z" } : Jvm.MethodName)) ∈ zTW := zin3 (List.mem_of_getElem? (i := 37) rfl)
theorem q518 : (Jvm.Cond.instanceMethod ({ cls := "SurveyStore$Branch", name := "hasUnsettled", desc := "()Z" } : Jvm.MethodName)) ∈ zTW := zin3 (List.mem_of_getElem? (i := 38) rfl)
theorem q519 : (Jvm.Cond.selects "SurveyStore$Branch" ({ cls := "SurveyStore$Branch", name := "hasUnsettled", desc := "()Z" } : Jvm.MethodName) ({ cls := "SurveyStore$Branch", name := "hasUnsettled", desc := "()Z" } : Jvm.MethodName)) ∈ zTW := zin3 (List.mem_of_getElem? (i := 39) rfl)
theorem q520 : (Jvm.Cond.code ({ cls := "SurveyStore$Branch", name := "hasUnsettled", desc := "()Z" } : Jvm.MethodName) prog_4_method_5_code (1 : Nat) (Option.some Jvm.ClassFile.FieldType.boolean)) ∈ zTW := zin3 (List.mem_of_getElem? (i := 40) rfl)
theorem q521 : (Jvm.Cond.methodLink "SurveyStore" (165 : Nat) ({ cls := "SurveyStore", name := "claimPending", desc := "([JI)V" } : Jvm.MethodName)) ∈ zTW := zin3 (List.mem_of_getElem? (i := 41) rfl)
theorem q522 : (Jvm.Cond.static ({ cls := "SurveyStore", name := "claimPending", desc := "([JI)V" } : Jvm.MethodName)) ∈ zTW := zin3 (List.mem_of_getElem? (i := 42) rfl)
theorem q523 : (Jvm.Cond.code ({ cls := "SurveyStore", name := "claimPending", desc := "([JI)V" } : Jvm.MethodName) prog_1_method_54_code (3 : Nat) (Option.none : Option Jvm.ClassFile.FieldType)) ∈ zTW := zin3 (List.mem_of_getElem? (i := 43) rfl)
theorem q524 : (Jvm.Cond.methodLink "SurveyStore" (297 : Nat) ({ cls := "SurveyStore", name := "originOf", desc := "(II)I" } : Jvm.MethodName)) ∈ zTW := zin3 (List.mem_of_getElem? (i := 44) rfl)
theorem q525 : (Jvm.Cond.methodLink "SurveyStore" (300 : Nat) ({ cls := "SurveyStore", name := "cellOf", desc := "(II)J" } : Jvm.MethodName)) ∈ zTW := zin3 (List.mem_of_getElem? (i := 45) rfl)
theorem q526 : (Jvm.Cond.methodLink "SurveyStore" (178 : Nat) ({ cls := "[J", name := "clone", desc := "()Ljava/lang/Object;" } : Jvm.MethodName)) ∈ zTW := zin3 (List.mem_of_getElem? (i := 46) rfl)
theorem q527 : (Jvm.Cond.sameMethod "[J" "java/lang/Object" "clone" "()Ljava/lang/Object;") ∈ zTW := zin3 (List.mem_of_getElem? (i := 47) rfl)
theorem q528 : (Jvm.Cond.native ({ cls := "java/lang/Object", name := "clone", desc := "()Ljava/lang/Object;" } : Jvm.MethodName)) ∈ zTW := zin3 (List.mem_of_getElem? (i := 48) rfl)
theorem q529 : (Jvm.Cond.instanceMethod ({ cls := "java/lang/Object", name := "clone", desc := "()Ljava/lang/Object;" } : Jvm.MethodName)) ∈ zTW := zin3 (List.mem_of_getElem? (i := 49) rfl)
theorem q530 : (Jvm.Cond.selects "[J" ({ cls := "[J", name := "clone", desc := "()Ljava/lang/Object;" } : Jvm.MethodName) ({ cls := "java/lang/Object", name := "clone", desc := "()Ljava/lang/Object;" } : Jvm.MethodName)) ∈ zTW := zin3 (List.mem_of_getElem? (i := 50) rfl)
theorem q531 : (Jvm.Cond.castable "[J" "java/lang/Cloneable") ∈ zTW := zin3 (List.mem_of_getElem? (i := 51) rfl)
theorem q532 : (Jvm.Cond.classLink "SurveyStore" (179 : Nat) "[J") ∈ zTW := zin3 (List.mem_of_getElem? (i := 52) rfl)
theorem q533 : (Jvm.Cond.methodLink "SurveyStore" (183 : Nat) ({ cls := "SurveyStore$Branch", name := "restAt", desc := "(I)V" } : Jvm.MethodName)) ∈ zTW := zin3 (List.mem_of_getElem? (i := 53) rfl)
theorem q534 : (Jvm.Cond.methodLink "SurveyStoreLaw" (110 : Nat) ({ cls := "SurveyStoreLaw", name := "merge", desc := "(LSurveyStore;II[J)I" } : Jvm.MethodName)) ∈ zTW := zin3 (List.mem_of_getElem? (i := 54) rfl)
theorem q535 : (Jvm.Cond.static ({ cls := "SurveyStoreLaw", name := "merge", desc := "(LSurveyStore;II[J)I" } : Jvm.MethodName)) ∈ zTW := zin3 (List.mem_of_getElem? (i := 55) rfl)
theorem q536 : (Jvm.Cond.codeWith ({ cls := "SurveyStoreLaw", name := "merge", desc := "(LSurveyStore;II[J)I" } : Jvm.MethodName) method_10_code (5 : Nat) (Option.some Jvm.ClassFile.FieldType.int) [((0 : Nat), (10 : Nat), (13 : Nat), (13 : Nat)), ((0 : Nat), (10 : Nat), (17 : Nat), (15 : Nat))]) ∈ zTW := zin3 (List.mem_of_getElem? (i := 56) rfl)
theorem q537 : (Jvm.Cond.methodLink "SurveyStoreLaw" (39 : Nat) ({ cls := "SurveyStore", name := "merge", desc := "(II)I" } : Jvm.MethodName)) ∈ zTW := zin3 (List.mem_of_getElem? (i := 57) rfl)
theorem q538 : (Jvm.Cond.instanceMethod ({ cls := "SurveyStore", name := "merge", desc := "(II)I" } : Jvm.MethodName)) ∈ zTW := zin3 (List.mem_of_getElem? (i := 58) rfl)
theorem q539 : (Jvm.Cond.selects "SurveyStore" ({ cls := "SurveyStore", name := "merge", desc := "(II)I" } : Jvm.MethodName) ({ cls := "SurveyStore", name := "merge", desc := "(II)I" } : Jvm.MethodName)) ∈ zTW := zin3 (List.mem_of_getElem? (i := 59) rfl)
theorem q540 : (Jvm.Cond.code ({ cls := "SurveyStore", name := "merge", desc := "(II)I" } : Jvm.MethodName) prog_1_method_14_code (7 : Nat) (Option.some Jvm.ClassFile.FieldType.int)) ∈ zTW := zin3 (List.mem_of_getElem? (i := 60) rfl)
theorem q541 : (Jvm.Cond.methodLink "SurveyStore" (189 : Nat) ({ cls := "SurveyStore", name := "baseOf", desc := "(III)LSurveyStore$BaseRow;" } : Jvm.MethodName)) ∈ zTW := zin3 (List.mem_of_getElem? (i := 61) rfl)
theorem q542 : (Jvm.Cond.privateMethod ({ cls := "SurveyStore", name := "baseOf", desc := "(III)LSurveyStore$BaseRow;" } : Jvm.MethodName)) ∈ zTW := zin3 (List.mem_of_getElem? (i := 62) rfl)
theorem q543 : (Jvm.Cond.instanceMethod ({ cls := "SurveyStore", name := "baseOf", desc := "(III)LSurveyStore$BaseRow;" } : Jvm.MethodName)) ∈ zTW := zin3 (List.mem_of_getElem? (i := 63) rfl)
theorem q544 : (Jvm.Cond.code ({ cls := "SurveyStore", name := "baseOf", desc := "(III)LSurveyStore$BaseRow;" } : Jvm.MethodName) prog_1_method_57_code (8 : Nat) (Option.some (Jvm.ClassFile.FieldType.object "SurveyStore$BaseRow"))) ∈ zTW := zin3 (List.mem_of_getElem? (i := 64) rfl)
theorem q545 : (Jvm.Cond.methodLink "SurveyStore" (307 : Nat) ({ cls := "SurveyStore", name := "baseRowAt", desc := "(I)LSurveyStore$BaseRow;" } : Jvm.MethodName)) ∈ zTW := zin3 (List.mem_of_getElem? (i := 65) rfl)
theorem q546 : (Jvm.Cond.privateMethod ({ cls := "SurveyStore", name := "baseRowAt", desc := "(I)LSurveyStore$BaseRow;" } : Jvm.MethodName)) ∈ zTW := zin3 (List.mem_of_getElem? (i := 66) rfl)
theorem q547 : (Jvm.Cond.instanceMethod ({ cls := "SurveyStore", name := "baseRowAt", desc := "(I)LSurveyStore$BaseRow;" } : Jvm.MethodName)) ∈ zTW := zin3 (List.mem_of_getElem? (i := 67) rfl)
theorem q548 : (Jvm.Cond.code ({ cls := "SurveyStore", name := "baseRowAt", desc := "(I)LSurveyStore$BaseRow;" } : Jvm.MethodName) prog_1_method_59_code (2 : Nat) (Option.some (Jvm.ClassFile.FieldType.object "SurveyStore$BaseRow"))) ∈ zTW := zin3 (List.mem_of_getElem? (i := 68) rfl)
theorem q549 : (Jvm.Cond.instantiable "SurveyStore$BaseRow" (1 : Nat)) ∈ zTW := zin3 (List.mem_of_getElem? (i := 69) rfl)
theorem q550 : (Jvm.Cond.methodLinkNest "SurveyStore" (323 : Nat) ({ cls := "SurveyStore$BaseRow", name := "<init>", desc := "()V" } : Jvm.MethodName) "SurveyStore") ∈ zTW := zin3 (List.mem_of_getElem? (i := 70) rfl)
theorem q551 : (Jvm.Cond.instanceMethod ({ cls := "SurveyStore$BaseRow", name := "<init>", desc := "()V" } : Jvm.MethodName)) ∈ zTW := zin3 (List.mem_of_getElem? (i := 71) rfl)
theorem q552 : (Jvm.Cond.code ({ cls := "SurveyStore$BaseRow", name := "<init>", desc := "()V" } : Jvm.MethodName) prog_2_method_1_code (1 : Nat) (Option.none : Option Jvm.ClassFile.FieldType)) ∈ zTW := zin3 (List.mem_of_getElem? (i := 72) rfl)
theorem q553 : (Jvm.Cond.methodLink "SurveyStore$BaseRow" (3 : Nat) ({ cls := "java/lang/Object", name := "<init>", desc := "()V" } : Jvm.MethodName)) ∈ zTW := zin3 (List.mem_of_getElem? (i := 73) rfl)
theorem q554 : (Jvm.Cond.fieldLink "SurveyStore$BaseRow" (9 : Nat) "SurveyStore$BaseRow" "values" "[I") ∈ zTW := zin3 (List.mem_of_getElem? (i := 74) rfl)
theorem q555 : (Jvm.Cond.fieldLink "SurveyStore" (197 : Nat) "SurveyStore$BaseRow" "values" "[I") ∈ zTW := zin3 (List.mem_of_getElem? (i := 75) rfl)
theorem q556 : (Jvm.Cond.laysFinal "SurveyStore$BaseRow" "SurveyStore$BaseRow" "values" "[I") ∈ zTW := zin3 (List.mem_of_getElem? (i := 76) rfl)
theorem q557 : (Jvm.Cond.soleField "SurveyStore$BaseRow" "values") ∈ zTW := zin3 (List.mem_of_getElem? (i := 77) rfl)
theorem q558 : (Jvm.Cond.superclass "SurveyStore$BaseRow" "java/lang/Object") ∈ zTW := zin3 (List.mem_of_getElem? (i := 78) rfl)
theorem q559 : (Jvm.Cond.methodLink "SurveyStore" (311 : Nat) ({ cls := "SurveyStore", name := "joinBase", desc := "(LSurveyStore$BaseRow;III)V" } : Jvm.MethodName)) ∈ zTW := zin3 (List.mem_of_getElem? (i := 79) rfl)
theorem q560 : (Jvm.Cond.privateMethod ({ cls := "SurveyStore", name := "joinBase", desc := "(LSurveyStore$BaseRow;III)V" } : Jvm.MethodName)) ∈ zTW := zin3 (List.mem_of_getElem? (i := 80) rfl)
theorem q561 : (Jvm.Cond.instanceMethod ({ cls := "SurveyStore", name := "joinBase", desc := "(LSurveyStore$BaseRow;III)V" } : Jvm.MethodName)) ∈ zTW := zin3 (List.mem_of_getElem? (i := 81) rfl)
theorem q562 : (Jvm.Cond.code ({ cls := "SurveyStore", name := "joinBase", desc := "(LSurveyStore$BaseRow;III)V" } : Jvm.MethodName) prog_1_method_58_code (6 : Nat) (Option.none : Option Jvm.ClassFile.FieldType)) ∈ zTW := zin3 (List.mem_of_getElem? (i := 82) rfl)
theorem q563 : (Jvm.Cond.methodLink "SurveyStore" (315 : Nat) ({ cls := "SurveyStore$BaseRow", name := "take", desc := "([J)V" } : Jvm.MethodName)) ∈ zTW := zin3 (List.mem_of_getElem? (i := 83) rfl)
theorem q564 : (Jvm.Cond.instanceMethod ({ cls := "SurveyStore$BaseRow", name := "take", desc := "([J)V" } : Jvm.MethodName)) ∈ zTW := zin3 (List.mem_of_getElem? (i := 84) rfl)
theorem q565 : (Jvm.Cond.selects "SurveyStore$BaseRow" ({ cls := "SurveyStore$BaseRow", name := "take", desc := "([J)V" } : Jvm.MethodName) ({ cls := "SurveyStore$BaseRow", name := "take", desc := "([J)V" } : Jvm.MethodName)) ∈ zTW := zin3 (List.mem_of_getElem? (i := 85) rfl)
theorem q566 : (Jvm.Cond.code ({ cls := "SurveyStore$BaseRow", name := "take", desc := "([J)V" } : Jvm.MethodName) prog_2_method_2_code (3 : Nat) (Option.none : Option Jvm.ClassFile.FieldType)) ∈ zTW := zin3 (List.mem_of_getElem? (i := 86) rfl)
theorem q567 : (Jvm.Cond.methodLinkNest "SurveyStore$BaseRow" (15 : Nat) ({ cls := "SurveyStore", name := "valueOf", desc := "(J)I" } : Jvm.MethodName) "SurveyStore") ∈ zTW := zin3 (List.mem_of_getElem? (i := 87) rfl)
theorem q568 : (Jvm.Cond.methodLink "SurveyStore" (319 : Nat) ({ cls := "SurveyStore$BaseRow", name := "mergeWith", desc := "([J[I)V" } : Jvm.MethodName)) ∈ zTW := zin3 (List.mem_of_getElem? (i := 88) rfl)
theorem q569 : (Jvm.Cond.instanceMethod ({ cls := "SurveyStore$BaseRow", name := "mergeWith", desc := "([J[I)V" } : Jvm.MethodName)) ∈ zTW := zin3 (List.mem_of_getElem? (i := 89) rfl)
theorem q570 : (Jvm.Cond.selects "SurveyStore$BaseRow" ({ cls := "SurveyStore$BaseRow", name := "mergeWith", desc := "([J[I)V" } : Jvm.MethodName) ({ cls := "SurveyStore$BaseRow", name := "mergeWith", desc := "([J[I)V" } : Jvm.MethodName)) ∈ zTW := zin3 (List.mem_of_getElem? (i := 90) rfl)
theorem q571 : (Jvm.Cond.code ({ cls := "SurveyStore$BaseRow", name := "mergeWith", desc := "([J[I)V" } : Jvm.MethodName) prog_2_method_3_code (5 : Nat) (Option.none : Option Jvm.ClassFile.FieldType)) ∈ zTW := zin3 (List.mem_of_getElem? (i := 91) rfl)
theorem q572 : (Jvm.Cond.methodLinkNest "SurveyStore$BaseRow" (19 : Nat) ({ cls := "SurveyStore", name := "isConflict", desc := "(III)Z" } : Jvm.MethodName) "SurveyStore") ∈ zTW := zin3 (List.mem_of_getElem? (i := 92) rfl)
theorem q573 : (Jvm.Cond.static ({ cls := "SurveyStore", name := "isConflict", desc := "(III)Z" } : Jvm.MethodName)) ∈ zTW := zin3 (List.mem_of_getElem? (i := 93) rfl)
theorem q574 : (Jvm.Cond.code ({ cls := "SurveyStore", name := "isConflict", desc := "(III)Z" } : Jvm.MethodName) prog_1_method_40_code (3 : Nat) (Option.some Jvm.ClassFile.FieldType.boolean)) ∈ zTW := zin3 (List.mem_of_getElem? (i := 94) rfl)
theorem q575 : (Jvm.Cond.constant "SurveyStore$BaseRow" (23 : Nat) (-2147483648 : Int32)) ∈ zTW := zin3 (List.mem_of_getElem? (i := 95) rfl)
theorem q576 : (Jvm.Cond.methodLink "SurveyStore" (193 : Nat) ({ cls := "SurveyStore$Branch", name := "freshConflicts", desc := "()LSurveyStore$Conflicts;" } : Jvm.MethodName)) ∈ zTW := zin3 (List.mem_of_getElem? (i := 96) rfl)
theorem q577 : (Jvm.Cond.instanceMethod ({ cls := "SurveyStore$Branch", name := "freshConflicts", desc := "()LSurveyStore$Conflicts;" } : Jvm.MethodName)) ∈ zTW := zin3 (List.mem_of_getElem? (i := 97) rfl)
theorem q578 : (Jvm.Cond.selects "SurveyStore$Branch" ({ cls := "SurveyStore$Branch", name := "freshConflicts", desc := "()LSurveyStore$Conflicts;" } : Jvm.MethodName) ({ cls := "SurveyStore$Branch", name := "freshConflicts", desc := "()LSurveyStore$Conflicts;" } : Jvm.MethodName)) ∈ zTW := zin3 (List.mem_of_getElem? (i := 98) rfl)
theorem q579 : (Jvm.Cond.code ({ cls := "SurveyStore$Branch", name := "freshConflicts", desc := "()LSurveyStore$Conflicts;" } : Jvm.MethodName) prog_4_method_4_code (1 : Nat) (Option.some (Jvm.ClassFile.FieldType.object "SurveyStore$Conflicts"))) ∈ zTW := zin3 (List.mem_of_getElem? (i := 99) rfl)
theorem q580 : (Jvm.Cond.classLink "SurveyStore$Branch" (41 : Nat) "SurveyStore$Conflicts") ∈ zTW := zin3 (List.mem_of_getElem? (i := 100) rfl)
theorem q581 : (Jvm.Cond.instantiable "SurveyStore$Conflicts" (7 : Nat)) ∈ zTW := zin3 (List.mem_of_getElem? (i := 101) rfl)
theorem q582 : (Jvm.Cond.methodLinkNest "SurveyStore$Branch" (45 : Nat) ({ cls := "SurveyStore$Conflicts", name := "<init>", desc := "()V" } : Jvm.MethodName) "SurveyStore") ∈ zTW := zin3 (List.mem_of_getElem? (i := 102) rfl)
theorem q583 : (Jvm.Cond.instanceMethod ({ cls := "SurveyStore$Conflicts", name := "<init>", desc := "()V" } : Jvm.MethodName)) ∈ zTW := zin3 (List.mem_of_getElem? (i := 103) rfl)
theorem q584 : (Jvm.Cond.code ({ cls := "SurveyStore$Conflicts", name := "<init>", desc := "()V" } : Jvm.MethodName) prog_6_method_1_code (1 : Nat) (Option.none : Option Jvm.ClassFile.FieldType)) ∈ zTW := zin3 (List.mem_of_getElem? (i := 104) rfl)
theorem q585 : (Jvm.Cond.methodLink "SurveyStore$Conflicts" (3 : Nat) ({ cls := "java/lang/Object", name := "<init>", desc := "()V" } : Jvm.MethodName)) ∈ zTW := zin3 (List.mem_of_getElem? (i := 105) rfl)
theorem q586 : (Jvm.Cond.fieldLink "SurveyStore$Conflicts" (9 : Nat) "SurveyStore$Conflicts" "indices" "[I") ∈ zTW := zin3 (List.mem_of_getElem? (i := 106) rfl)
theorem q587 : (Jvm.Cond.fieldLink "SurveyStore" (220 : Nat) "SurveyStore$Conflicts" "indices" "[I") ∈ zTW := zin3 (List.mem_of_getElem? (i := 107) rfl)
theorem q588 : (Jvm.Cond.fieldLink "SurveyStore$Conflicts" (15 : Nat) "SurveyStore$Conflicts" "mine" "[I") ∈ zTW := zin3 (List.mem_of_getElem? (i := 108) rfl)
theorem q589 : (Jvm.Cond.fieldLink "SurveyStore$Conflicts" (18 : Nat) "SurveyStore$Conflicts" "others" "[I") ∈ zTW := zin3 (List.mem_of_getElem? (i := 109) rfl)
theorem q590 : (Jvm.Cond.fieldLink "SurveyStore$Conflicts" (21 : Nat) "SurveyStore$Conflicts" "bases" "[I") ∈ zTW := zin3 (List.mem_of_getElem? (i := 110) rfl)
theorem q591 : (Jvm.Cond.fieldLink "SurveyStore$Conflicts" (24 : Nat) "SurveyStore$Conflicts" "settled" "[Z") ∈ zTW := zin3 (List.mem_of_getElem? (i := 111) rfl)
theorem q592 : (Jvm.Cond.fieldLink "SurveyStore$Conflicts" (28 : Nat) "SurveyStore$Conflicts" "count" "I") ∈ zTW := zin3 (List.mem_of_getElem? (i := 112) rfl)
theorem q593 : (Jvm.Cond.fieldLink "SurveyStore" (204 : Nat) "SurveyStore$Conflicts" "count" "I") ∈ zTW := zin3 (List.mem_of_getElem? (i := 113) rfl)
theorem q594 : (Jvm.Cond.fieldLink "SurveyStore$Conflicts" (32 : Nat) "SurveyStore$Conflicts" "unsettled" "I") ∈ zTW := zin3 (List.mem_of_getElem? (i := 114) rfl)
theorem q595 : (Jvm.Cond.fieldLink "SurveyStore$Branch" (46 : Nat) "SurveyStore$Conflicts" "unsettled" "I") ∈ zTW := zin3 (List.mem_of_getElem? (i := 115) rfl)
theorem q596 : (Jvm.Cond.fieldLink "SurveyStore" (226 : Nat) "SurveyStore$Conflicts" "unsettled" "I") ∈ zTW := zin3 (List.mem_of_getElem? (i := 116) rfl)
theorem q597 : (Jvm.Cond.laysFinal "SurveyStore$Conflicts" "SurveyStore$Conflicts" "indices" "[I") ∈ zTW := zin3 (List.mem_of_getElem? (i := 117) rfl)
theorem q598 : (Jvm.Cond.soleField "SurveyStore$Conflicts" "indices") ∈ zTW := zin3 (List.mem_of_getElem? (i := 118) rfl)
theorem q599 : (Jvm.Cond.laysFinal "SurveyStore$Conflicts" "SurveyStore$Conflicts" "mine" "[I") ∈ zTW := zin3 (List.mem_of_getElem? (i := 119) rfl)
theorem q600 : (Jvm.Cond.soleField "SurveyStore$Conflicts" "mine") ∈ zTW := zin3 (List.mem_of_getElem? (i := 120) rfl)
theorem q601 : (Jvm.Cond.laysFinal "SurveyStore$Conflicts" "SurveyStore$Conflicts" "others" "[I") ∈ zTW := zin3 (List.mem_of_getElem? (i := 121) rfl)
theorem q602 : (Jvm.Cond.soleField "SurveyStore$Conflicts" "others") ∈ zTW := zin3 (List.mem_of_getElem? (i := 122) rfl)
theorem q603 : (Jvm.Cond.laysFinal "SurveyStore$Conflicts" "SurveyStore$Conflicts" "bases" "[I") ∈ zTW := zin3 (List.mem_of_getElem? (i := 123) rfl)
theorem q604 : (Jvm.Cond.soleField "SurveyStore$Conflicts" "bases") ∈ zTW := zin3 (List.mem_of_getElem? (i := 124) rfl)
theorem q605 : (Jvm.Cond.laysFinal "SurveyStore$Conflicts" "SurveyStore$Conflicts" "settled" "[Z") ∈ zTW := zin3 (List.mem_of_getElem? (i := 125) rfl)
theorem q606 : (Jvm.Cond.soleField "SurveyStore$Conflicts" "settled") ∈ zTW := zin3 (List.mem_of_getElem? (i := 126) rfl)
theorem q607 : (Jvm.Cond.lays "SurveyStore$Conflicts" "SurveyStore$Conflicts" "count" "I") ∈ zTW := zin3 (List.mem_of_getElem? (i := 127) rfl)
theorem q608 : (Jvm.Cond.soleField "SurveyStore$Conflicts" "count") ∈ zTW := zin3 (List.mem_of_getElem? (i := 128) rfl)
theorem q609 : (Jvm.Cond.lays "SurveyStore$Conflicts" "SurveyStore$Conflicts" "unsettled" "I") ∈ zTW := zin3 (List.mem_of_getElem? (i := 129) rfl)
theorem q610 : (Jvm.Cond.soleField "SurveyStore$Conflicts" "unsettled") ∈ zTW := zin3 (List.mem_of_getElem? (i := 130) rfl)
theorem q611 : (Jvm.Cond.superclass "SurveyStore$Conflicts" "java/lang/Object") ∈ zTW := zin3 (List.mem_of_getElem? (i := 131) rfl)
theorem q612 : (Jvm.Cond.arrayClass Jvm.ClassFile.FieldType.boolean) ∈ zTW := zin3 (List.mem_of_getElem? (i := 132) rfl)
theorem q613 : (Jvm.Cond.methodLink "SurveyStore" (200 : Nat) ({ cls := "SurveyStore", name := "mergeCells", desc := "([J[J[ILSurveyStore$Conflicts;)V" } : Jvm.MethodName)) ∈ zTW := zin3 (List.mem_of_getElem? (i := 133) rfl)
theorem q614 : (Jvm.Cond.privateMethod ({ cls := "SurveyStore", name := "mergeCells", desc := "([J[J[ILSurveyStore$Conflicts;)V" } : Jvm.MethodName)) ∈ zTW := zin3 (List.mem_of_getElem? (i := 134) rfl)
theorem q615 : (Jvm.Cond.instanceMethod ({ cls := "SurveyStore", name := "mergeCells", desc := "([J[J[ILSurveyStore$Conflicts;)V" } : Jvm.MethodName)) ∈ zTW := zin3 (List.mem_of_getElem? (i := 135) rfl)
theorem q616 : (Jvm.Cond.code ({ cls := "SurveyStore", name := "mergeCells", desc := "([J[J[ILSurveyStore$Conflicts;)V" } : Jvm.MethodName) prog_1_method_60_code (9 : Nat) (Option.none : Option Jvm.ClassFile.FieldType)) ∈ zTW := zin3 (List.mem_of_getElem? (i := 136) rfl)
theorem q617 : (Jvm.Cond.methodLink "SurveyStore" (324 : Nat) ({ cls := "SurveyStore", name := "isConflict", desc := "(III)Z" } : Jvm.MethodName)) ∈ zTW := zin3 (List.mem_of_getElem? (i := 137) rfl)
theorem q618 : (Jvm.Cond.methodLink "SurveyStore" (327 : Nat) ({ cls := "SurveyStore$Conflicts", name := "add", desc := "(IIII)V" } : Jvm.MethodName)) ∈ zTW := zin3 (List.mem_of_getElem? (i := 138) rfl)
theorem q619 : (Jvm.Cond.instanceMethod ({ cls := "SurveyStore$Conflicts", name := "add", desc := "(IIII)V" } : Jvm.MethodName)) ∈ zTW := zin3 (List.mem_of_getElem? (i := 139) rfl)
theorem q620 : (Jvm.Cond.selects "SurveyStore$Conflicts" ({ cls := "SurveyStore$Conflicts", name := "add", desc := "(IIII)V" } : Jvm.MethodName) ({ cls := "SurveyStore$Conflicts", name := "add", desc := "(IIII)V" } : Jvm.MethodName)) ∈ zTW := zin3 (List.mem_of_getElem? (i := 140) rfl)
theorem q621 : (Jvm.Cond.code ({ cls := "SurveyStore$Conflicts", name := "add", desc := "(IIII)V" } : Jvm.MethodName) prog_6_method_3_code (5 : Nat) (Option.none : Option Jvm.ClassFile.FieldType)) ∈ zTW := zin3 (List.mem_of_getElem? (i := 141) rfl)
theorem q622 : (Jvm.Cond.methodLink "SurveyStore" (331 : Nat) ({ cls := "SurveyStore", name := "otherWins", desc := "(IJJ)Z" } : Jvm.MethodName)) ∈ zTW := zin3 (List.mem_of_getElem? (i := 142) rfl)
theorem q623 : (Jvm.Cond.static ({ cls := "SurveyStore", name := "otherWins", desc := "(IJJ)Z" } : Jvm.MethodName)) ∈ zTW := zin3 (List.mem_of_getElem? (i := 143) rfl)
theorem q624 : (Jvm.Cond.code ({ cls := "SurveyStore", name := "otherWins", desc := "(IJJ)Z" } : Jvm.MethodName) prog_1_method_61_code (5 : Nat) (Option.some Jvm.ClassFile.FieldType.boolean)) ∈ zTW := zin3 (List.mem_of_getElem? (i := 144) rfl)
theorem q625 : (Jvm.Cond.methodLink "SurveyStoreLaw" (118 : Nat) ({ cls := "SurveyStoreLaw", name := "settle", desc := "(LSurveyStore;III[J)I" } : Jvm.MethodName)) ∈ zTW := zin3 (List.mem_of_getElem? (i := 145) rfl)
theorem q626 : (Jvm.Cond.static ({ cls := "SurveyStoreLaw", name := "settle", desc := "(LSurveyStore;III[J)I" } : Jvm.MethodName)) ∈ zTW := zin3 (List.mem_of_getElem? (i := 146) rfl)
theorem q627 : (Jvm.Cond.codeWith ({ cls := "SurveyStoreLaw", name := "settle", desc := "(LSurveyStore;III[J)I" } : Jvm.MethodName) method_11_code (6 : Nat) (Option.some Jvm.ClassFile.FieldType.int) [((0 : Nat), (12 : Nat), (15 : Nat), (13 : Nat))]) ∈ zTW := zin3 (List.mem_of_getElem? (i := 147) rfl)
theorem q628 : (Jvm.Cond.methodLink "SurveyStoreLaw" (43 : Nat) ({ cls := "SurveyStore", name := "settle", desc := "(III)I" } : Jvm.MethodName)) ∈ zTW := zin3 (List.mem_of_getElem? (i := 148) rfl)
theorem q629 : (Jvm.Cond.instanceMethod ({ cls := "SurveyStore", name := "settle", desc := "(III)I" } : Jvm.MethodName)) ∈ zTW := zin3 (List.mem_of_getElem? (i := 149) rfl)
theorem q630 : (Jvm.Cond.selects "SurveyStore" ({ cls := "SurveyStore", name := "settle", desc := "(III)I" } : Jvm.MethodName) ({ cls := "SurveyStore", name := "settle", desc := "(III)I" } : Jvm.MethodName)) ∈ zTW := zin3 (List.mem_of_getElem? (i := 150) rfl)
theorem q631 : (Jvm.Cond.code ({ cls := "SurveyStore", name := "settle", desc := "(III)I" } : Jvm.MethodName) prog_1_method_16_code (5 : Nat) (Option.some Jvm.ClassFile.FieldType.int)) ∈ zTW := zin3 (List.mem_of_getElem? (i := 151) rfl)
theorem q632 : (Jvm.Cond.methodLink "SurveyStore" (217 : Nat) ({ cls := "SurveyStore$Conflicts", name := "has", desc := "(I)Z" } : Jvm.MethodName)) ∈ zTW := zin3 (List.mem_of_getElem? (i := 152) rfl)
theorem q633 : (Jvm.Cond.methodLink "SurveyStore" (223 : Nat) ({ cls := "SurveyStore$Conflicts", name := "markSettled", desc := "(I)V" } : Jvm.MethodName)) ∈ zTW := zin3 (List.mem_of_getElem? (i := 153) rfl)
theorem q634 : (Jvm.Cond.instanceMethod ({ cls := "SurveyStore$Conflicts", name := "markSettled", desc := "(I)V" } : Jvm.MethodName)) ∈ zTW := zin3 (List.mem_of_getElem? (i := 154) rfl)
theorem q635 : (Jvm.Cond.selects "SurveyStore$Conflicts" ({ cls := "SurveyStore$Conflicts", name := "markSettled", desc := "(I)V" } : Jvm.MethodName) ({ cls := "SurveyStore$Conflicts", name := "markSettled", desc := "(I)V" } : Jvm.MethodName)) ∈ zTW := zin3 (List.mem_of_getElem? (i := 155) rfl)
theorem q636 : (Jvm.Cond.code ({ cls := "SurveyStore$Conflicts", name := "markSettled", desc := "(I)V" } : Jvm.MethodName) prog_6_method_5_code (2 : Nat) (Option.none : Option Jvm.ClassFile.FieldType)) ∈ zTW := zin3 (List.mem_of_getElem? (i := 156) rfl)
theorem q637 : (Jvm.Cond.methodLink "SurveyStoreLaw" (132 : Nat) ({ cls := "SurveyStoreLaw", name := "total", desc := "(LSurveyStore;III[J)I" } : Jvm.MethodName)) ∈ zTW := zin3 (List.mem_of_getElem? (i := 157) rfl)
theorem q638 : (Jvm.Cond.static ({ cls := "SurveyStoreLaw", name := "total", desc := "(LSurveyStore;III[J)I" } : Jvm.MethodName)) ∈ zTW := zin3 (List.mem_of_getElem? (i := 158) rfl)
theorem q639 : (Jvm.Cond.codeWith ({ cls := "SurveyStoreLaw", name := "total", desc := "(LSurveyStore;III[J)I" } : Jvm.MethodName) method_12_code (6 : Nat) (Option.some Jvm.ClassFile.FieldType.int) [((0 : Nat), (12 : Nat), (15 : Nat), (13 : Nat))]) ∈ zTW := zin3 (List.mem_of_getElem? (i := 159) rfl)
theorem q640 : (Jvm.Cond.methodLink "SurveyStoreLaw" (47 : Nat) ({ cls := "SurveyStore", name := "total", desc := "(III)I" } : Jvm.MethodName)) ∈ zTW := zin3 (List.mem_of_getElem? (i := 160) rfl)
theorem q641 : (Jvm.Cond.instanceMethod ({ cls := "SurveyStore", name := "total", desc := "(III)I" } : Jvm.MethodName)) ∈ zTW := zin3 (List.mem_of_getElem? (i := 161) rfl)
theorem q642 : (Jvm.Cond.selects "SurveyStore" ({ cls := "SurveyStore", name := "total", desc := "(III)I" } : Jvm.MethodName) ({ cls := "SurveyStore", name := "total", desc := "(III)I" } : Jvm.MethodName)) ∈ zTW := zin3 (List.mem_of_getElem? (i := 162) rfl)
theorem q643 : (Jvm.Cond.code ({ cls := "SurveyStore", name := "total", desc := "(III)I" } : Jvm.MethodName) prog_1_method_19_code (12 : Nat) (Option.some Jvm.ClassFile.FieldType.int)) ∈ zTW := zin3 (List.mem_of_getElem? (i := 163) rfl)
theorem q644 : (Jvm.Cond.classLink "SurveyStoreLaw" (51 : Nat) "SurveyStoreModel") ∈ zTW := zin3 (List.mem_of_getElem? (i := 164) rfl)
theorem q645 : (Jvm.Cond.instantiable "SurveyStoreModel" (28 : Nat)) ∈ zTW := zin3 (List.mem_of_getElem? (i := 165) rfl)
theorem q646 : (Jvm.Cond.methodLink "SurveyStoreLaw" (53 : Nat) ({ cls := "SurveyStoreModel", name := "<init>", desc := "()V" } : Jvm.MethodName)) ∈ zTW := zin3 (List.mem_of_getElem? (i := 166) rfl)
theorem q647 : (Jvm.Cond.instanceMethod ({ cls := "SurveyStoreModel", name := "<init>", desc := "()V" } : Jvm.MethodName)) ∈ zTW := zin3 (List.mem_of_getElem? (i := 167) rfl)
theorem q648 : (Jvm.Cond.code ({ cls := "SurveyStoreModel", name := "<init>", desc := "()V" } : Jvm.MethodName) prog_8_method_1_code (2 : Nat) (Option.none : Option Jvm.ClassFile.FieldType)) ∈ zTW := zin3 (List.mem_of_getElem? (i := 168) rfl)
theorem q649 : (Jvm.Cond.methodLink "SurveyStoreModel" (1 : Nat) ({ cls := "java/lang/Object", name := "<init>", desc := "()V" } : Jvm.MethodName)) ∈ zTW := zin3 (List.mem_of_getElem? (i := 169) rfl)
theorem q650 : (Jvm.Cond.constant "SurveyStoreModel" (7 : Nat) (114688 : Int32)) ∈ zTW := zin3 (List.mem_of_getElem? (i := 170) rfl)
theorem q651 : (Jvm.Cond.constant "SurveyStoreModel" (82 : Nat) (106496 : Int32)) ∈ zTW := zin3 (List.mem_of_getElem? (i := 171) rfl)
theorem q652 : (Jvm.Cond.constant "SurveyStoreModel" (89 : Nat) (-2147483648 : Int32)) ∈ zTW := zin3 (List.mem_of_getElem? (i := 172) rfl)
theorem q653 : (Jvm.Cond.fieldLink "SurveyStoreModel" (90 : Nat) "SurveyStoreModel" "code" "I") ∈ zTW := zin3 (List.mem_of_getElem? (i := 173) rfl)
theorem q654 : (Jvm.Cond.fieldLink "SurveyStoreModel" (8 : Nat) "SurveyStoreModel" "value" "[I") ∈ zTW := zin3 (List.mem_of_getElem? (i := 174) rfl)
theorem q655 : (Jvm.Cond.fieldLink "SurveyStoreModel" (14 : Nat) "SurveyStoreModel" "origin" "[I") ∈ zTW := zin3 (List.mem_of_getElem? (i := 175) rfl)
theorem q656 : (Jvm.Cond.fieldLink "SurveyStoreModel" (17 : Nat) "SurveyStoreModel" "kinds" "[I") ∈ zTW := zin3 (List.mem_of_getElem? (i := 176) rfl)
theorem q657 : (Jvm.Cond.fieldLink "SurveyStoreModel" (20 : Nat) "SurveyStoreModel" "parent" "[I") ∈ zTW := zin3 (List.mem_of_getElem? (i := 177) rfl)
theorem q658 : (Jvm.Cond.fieldLink "SurveyStoreModel" (23 : Nat) "SurveyStoreModel" "other" "[I") ∈ zTW := zin3 (List.mem_of_getElem? (i := 178) rfl)
theorem q659 : (Jvm.Cond.fieldLink "SurveyStoreModel" (26 : Nat) "SurveyStoreModel" "commits" "I") ∈ zTW := zin3 (List.mem_of_getElem? (i := 179) rfl)
theorem q660 : (Jvm.Cond.fieldLink "SurveyStoreModel" (30 : Nat) "SurveyStoreModel" "there" "[Z") ∈ zTW := zin3 (List.mem_of_getElem? (i := 180) rfl)
theorem q661 : (Jvm.Cond.fieldLink "SurveyStoreModel" (34 : Nat) "SurveyStoreModel" "head" "[I") ∈ zTW := zin3 (List.mem_of_getElem? (i := 181) rfl)
theorem q662 : (Jvm.Cond.fieldLink "SurveyStoreModel" (37 : Nat) "SurveyStoreModel" "merging" "[I") ∈ zTW := zin3 (List.mem_of_getElem? (i := 182) rfl)
theorem q663 : (Jvm.Cond.fieldLink "SurveyStoreModel" (40 : Nat) "SurveyStoreModel" "conflictAt" "[I") ∈ zTW := zin3 (List.mem_of_getElem? (i := 183) rfl)
theorem q664 : (Jvm.Cond.fieldLink "SurveyStoreModel" (43 : Nat) "SurveyStoreModel" "conflictMine" "[I") ∈ zTW := zin3 (List.mem_of_getElem? (i := 184) rfl)
theorem q665 : (Jvm.Cond.fieldLink "SurveyStoreModel" (46 : Nat) "SurveyStoreModel" "conflictOther" "[I") ∈ zTW := zin3 (List.mem_of_getElem? (i := 185) rfl)
theorem q666 : (Jvm.Cond.fieldLink "SurveyStoreModel" (49 : Nat) "SurveyStoreModel" "conflictBase" "[I") ∈ zTW := zin3 (List.mem_of_getElem? (i := 186) rfl)
theorem q667 : (Jvm.Cond.fieldLink "SurveyStoreModel" (52 : Nat) "SurveyStoreModel" "conflicts" "[I") ∈ zTW := zin3 (List.mem_of_getElem? (i := 187) rfl)
theorem q668 : (Jvm.Cond.fieldLink "SurveyStoreModel" (55 : Nat) "SurveyStoreModel" "settled" "[Z") ∈ zTW := zin3 (List.mem_of_getElem? (i := 188) rfl)
theorem q669 : (Jvm.Cond.fieldLink "SurveyStoreModel" (109 : Nat) "SurveyStoreModel" "left" "I") ∈ zTW := zin3 (List.mem_of_getElem? (i := 189) rfl)
theorem q670 : (Jvm.Cond.fieldLink "SurveyStoreModel" (112 : Nat) "SurveyStoreModel" "top" "I") ∈ zTW := zin3 (List.mem_of_getElem? (i := 190) rfl)
theorem q671 : (Jvm.Cond.fieldLink "SurveyStoreModel" (58 : Nat) "SurveyStoreModel" "wide" "I") ∈ zTW := zin3 (List.mem_of_getElem? (i := 191) rfl)
theorem q672 : (Jvm.Cond.fieldLink "SurveyStoreModel" (61 : Nat) "SurveyStoreModel" "high" "I") ∈ zTW := zin3 (List.mem_of_getElem? (i := 192) rfl)
theorem q673 : (Jvm.Cond.fieldLink "SurveyStoreModel" (64 : Nat) "SurveyStoreModel" "cornerX" "[I") ∈ zTW := zin3 (List.mem_of_getElem? (i := 193) rfl)
theorem q674 : (Jvm.Cond.fieldLink "SurveyStoreModel" (67 : Nat) "SurveyStoreModel" "cornerY" "[I") ∈ zTW := zin3 (List.mem_of_getElem? (i := 194) rfl)
theorem q675 : (Jvm.Cond.fieldLink "SurveyStoreModel" (70 : Nat) "SurveyStoreModel" "from" "[I") ∈ zTW := zin3 (List.mem_of_getElem? (i := 195) rfl)
theorem q676 : (Jvm.Cond.fieldLink "SurveyStoreModel" (73 : Nat) "SurveyStoreModel" "to" "[I") ∈ zTW := zin3 (List.mem_of_getElem? (i := 196) rfl)
theorem q677 : (Jvm.Cond.fieldLink "SurveyStoreModel" (76 : Nat) "SurveyStoreModel" "wanted" "[I") ∈ zTW := zin3 (List.mem_of_getElem? (i := 197) rfl)
theorem q678 : (Jvm.Cond.fieldLink "SurveyStoreModel" (79 : Nat) "SurveyStoreModel" "done" "[I") ∈ zTW := zin3 (List.mem_of_getElem? (i := 198) rfl)
theorem q679 : (Jvm.Cond.fieldLink "SurveyStoreModel" (83 : Nat) "SurveyStoreModel" "rows" "[I") ∈ zTW := zin3 (List.mem_of_getElem? (i := 199) rfl)
theorem q680 : (Jvm.Cond.fieldLink "SurveyStoreModel" (86 : Nat) "SurveyStoreModel" "foundAt" "[I") ∈ zTW := zin3 (List.mem_of_getElem? (i := 200) rfl)
theorem q681 : (Jvm.Cond.lays "SurveyStoreModel" "SurveyStoreModel" "code" "I") ∈ zTW := zin3 (List.mem_of_getElem? (i := 201) rfl)
theorem q682 : (Jvm.Cond.soleField "SurveyStoreModel" "code") ∈ zTW := zin3 (List.mem_of_getElem? (i := 202) rfl)
theorem q683 : (Jvm.Cond.laysFinal "SurveyStoreModel" "SurveyStoreModel" "value" "[I") ∈ zTW := zin3 (List.mem_of_getElem? (i := 203) rfl)
theorem q684 : (Jvm.Cond.soleField "SurveyStoreModel" "value") ∈ zTW := zin3 (List.mem_of_getElem? (i := 204) rfl)
theorem q685 : (Jvm.Cond.laysFinal "SurveyStoreModel" "SurveyStoreModel" "origin" "[I") ∈ zTW := zin3 (List.mem_of_getElem? (i := 205) rfl)
theorem q686 : (Jvm.Cond.soleField "SurveyStoreModel" "origin") ∈ zTW := zin3 (List.mem_of_getElem? (i := 206) rfl)
theorem q687 : (Jvm.Cond.laysFinal "SurveyStoreModel" "SurveyStoreModel" "kinds" "[I") ∈ zTW := zin3 (List.mem_of_getElem? (i := 207) rfl)
theorem q688 : (Jvm.Cond.soleField "SurveyStoreModel" "kinds") ∈ zTW := zin3 (List.mem_of_getElem? (i := 208) rfl)
theorem q689 : (Jvm.Cond.laysFinal "SurveyStoreModel" "SurveyStoreModel" "parent" "[I") ∈ zTW := zin3 (List.mem_of_getElem? (i := 209) rfl)
theorem q690 : (Jvm.Cond.soleField "SurveyStoreModel" "parent") ∈ zTW := zin3 (List.mem_of_getElem? (i := 210) rfl)
theorem q691 : (Jvm.Cond.laysFinal "SurveyStoreModel" "SurveyStoreModel" "other" "[I") ∈ zTW := zin3 (List.mem_of_getElem? (i := 211) rfl)
theorem q692 : (Jvm.Cond.soleField "SurveyStoreModel" "other") ∈ zTW := zin3 (List.mem_of_getElem? (i := 212) rfl)
theorem q693 : (Jvm.Cond.lays "SurveyStoreModel" "SurveyStoreModel" "commits" "I") ∈ zTW := zin3 (List.mem_of_getElem? (i := 213) rfl)
theorem q694 : (Jvm.Cond.soleField "SurveyStoreModel" "commits") ∈ zTW := zin3 (List.mem_of_getElem? (i := 214) rfl)
theorem q695 : (Jvm.Cond.laysFinal "SurveyStoreModel" "SurveyStoreModel" "there" "[Z") ∈ zTW := zin3 (List.mem_of_getElem? (i := 215) rfl)
theorem q696 : (Jvm.Cond.soleField "SurveyStoreModel" "there") ∈ zTW := zin3 (List.mem_of_getElem? (i := 216) rfl)
theorem q697 : (Jvm.Cond.laysFinal "SurveyStoreModel" "SurveyStoreModel" "head" "[I") ∈ zTW := zin3 (List.mem_of_getElem? (i := 217) rfl)
theorem q698 : (Jvm.Cond.soleField "SurveyStoreModel" "head") ∈ zTW := zin3 (List.mem_of_getElem? (i := 218) rfl)
theorem q699 : (Jvm.Cond.laysFinal "SurveyStoreModel" "SurveyStoreModel" "merging" "[I") ∈ zTW := zin3 (List.mem_of_getElem? (i := 219) rfl)
theorem q700 : (Jvm.Cond.soleField "SurveyStoreModel" "merging") ∈ zTW := zin3 (List.mem_of_getElem? (i := 220) rfl)
theorem q701 : (Jvm.Cond.laysFinal "SurveyStoreModel" "SurveyStoreModel" "conflictAt" "[I") ∈ zTW := zin3 (List.mem_of_getElem? (i := 221) rfl)
theorem q702 : (Jvm.Cond.soleField "SurveyStoreModel" "conflictAt") ∈ zTW := zin3 (List.mem_of_getElem? (i := 222) rfl)
theorem q703 : (Jvm.Cond.laysFinal "SurveyStoreModel" "SurveyStoreModel" "conflictMine" "[I") ∈ zTW := zin3 (List.mem_of_getElem? (i := 223) rfl)
theorem q704 : (Jvm.Cond.soleField "SurveyStoreModel" "conflictMine") ∈ zTW := zin3 (List.mem_of_getElem? (i := 224) rfl)
theorem q705 : (Jvm.Cond.laysFinal "SurveyStoreModel" "SurveyStoreModel" "conflictOther" "[I") ∈ zTW := zin3 (List.mem_of_getElem? (i := 225) rfl)
theorem q706 : (Jvm.Cond.soleField "SurveyStoreModel" "conflictOther") ∈ zTW := zin3 (List.mem_of_getElem? (i := 226) rfl)
theorem q707 : (Jvm.Cond.laysFinal "SurveyStoreModel" "SurveyStoreModel" "conflictBase" "[I") ∈ zTW := zin3 (List.mem_of_getElem? (i := 227) rfl)
theorem q708 : (Jvm.Cond.soleField "SurveyStoreModel" "conflictBase") ∈ zTW := zin3 (List.mem_of_getElem? (i := 228) rfl)
theorem q709 : (Jvm.Cond.laysFinal "SurveyStoreModel" "SurveyStoreModel" "conflicts" "[I") ∈ zTW := zin3 (List.mem_of_getElem? (i := 229) rfl)
theorem q710 : (Jvm.Cond.soleField "SurveyStoreModel" "conflicts") ∈ zTW := zin3 (List.mem_of_getElem? (i := 230) rfl)
theorem q711 : (Jvm.Cond.laysFinal "SurveyStoreModel" "SurveyStoreModel" "settled" "[Z") ∈ zTW := zin3 (List.mem_of_getElem? (i := 231) rfl)
theorem q712 : (Jvm.Cond.soleField "SurveyStoreModel" "settled") ∈ zTW := zin3 (List.mem_of_getElem? (i := 232) rfl)
theorem q713 : (Jvm.Cond.lays "SurveyStoreModel" "SurveyStoreModel" "left" "I") ∈ zTW := zin3 (List.mem_of_getElem? (i := 233) rfl)
theorem q714 : (Jvm.Cond.soleField "SurveyStoreModel" "left") ∈ zTW := zin3 (List.mem_of_getElem? (i := 234) rfl)
theorem q715 : (Jvm.Cond.lays "SurveyStoreModel" "SurveyStoreModel" "top" "I") ∈ zTW := zin3 (List.mem_of_getElem? (i := 235) rfl)
theorem q716 : (Jvm.Cond.soleField "SurveyStoreModel" "top") ∈ zTW := zin3 (List.mem_of_getElem? (i := 236) rfl)
theorem q717 : (Jvm.Cond.lays "SurveyStoreModel" "SurveyStoreModel" "wide" "I") ∈ zTW := zin3 (List.mem_of_getElem? (i := 237) rfl)
theorem q718 : (Jvm.Cond.soleField "SurveyStoreModel" "wide") ∈ zTW := zin3 (List.mem_of_getElem? (i := 238) rfl)
theorem q719 : (Jvm.Cond.lays "SurveyStoreModel" "SurveyStoreModel" "high" "I") ∈ zTW := zin3 (List.mem_of_getElem? (i := 239) rfl)
theorem q720 : (Jvm.Cond.soleField "SurveyStoreModel" "high") ∈ zTW := zin4 (List.mem_of_getElem? (i := 0) rfl)
theorem q721 : (Jvm.Cond.laysFinal "SurveyStoreModel" "SurveyStoreModel" "cornerX" "[I") ∈ zTW := zin4 (List.mem_of_getElem? (i := 1) rfl)
theorem q722 : (Jvm.Cond.soleField "SurveyStoreModel" "cornerX") ∈ zTW := zin4 (List.mem_of_getElem? (i := 2) rfl)
theorem q723 : (Jvm.Cond.laysFinal "SurveyStoreModel" "SurveyStoreModel" "cornerY" "[I") ∈ zTW := zin4 (List.mem_of_getElem? (i := 3) rfl)
theorem q724 : (Jvm.Cond.soleField "SurveyStoreModel" "cornerY") ∈ zTW := zin4 (List.mem_of_getElem? (i := 4) rfl)
theorem q725 : (Jvm.Cond.laysFinal "SurveyStoreModel" "SurveyStoreModel" "from" "[I") ∈ zTW := zin4 (List.mem_of_getElem? (i := 5) rfl)
theorem q726 : (Jvm.Cond.soleField "SurveyStoreModel" "from") ∈ zTW := zin4 (List.mem_of_getElem? (i := 6) rfl)
theorem q727 : (Jvm.Cond.laysFinal "SurveyStoreModel" "SurveyStoreModel" "to" "[I") ∈ zTW := zin4 (List.mem_of_getElem? (i := 7) rfl)
theorem q728 : (Jvm.Cond.soleField "SurveyStoreModel" "to") ∈ zTW := zin4 (List.mem_of_getElem? (i := 8) rfl)
theorem q729 : (Jvm.Cond.laysFinal "SurveyStoreModel" "SurveyStoreModel" "wanted" "[I") ∈ zTW := zin4 (List.mem_of_getElem? (i := 9) rfl)
theorem q730 : (Jvm.Cond.soleField "SurveyStoreModel" "wanted") ∈ zTW := zin4 (List.mem_of_getElem? (i := 10) rfl)
theorem q731 : (Jvm.Cond.laysFinal "SurveyStoreModel" "SurveyStoreModel" "done" "[I") ∈ zTW := zin4 (List.mem_of_getElem? (i := 11) rfl)
theorem q732 : (Jvm.Cond.soleField "SurveyStoreModel" "done") ∈ zTW := zin4 (List.mem_of_getElem? (i := 12) rfl)
theorem q733 : (Jvm.Cond.laysFinal "SurveyStoreModel" "SurveyStoreModel" "rows" "[I") ∈ zTW := zin4 (List.mem_of_getElem? (i := 13) rfl)
theorem q734 : (Jvm.Cond.soleField "SurveyStoreModel" "rows") ∈ zTW := zin4 (List.mem_of_getElem? (i := 14) rfl)
theorem q735 : (Jvm.Cond.laysFinal "SurveyStoreModel" "SurveyStoreModel" "foundAt" "[I") ∈ zTW := zin4 (List.mem_of_getElem? (i := 15) rfl)
theorem q736 : (Jvm.Cond.soleField "SurveyStoreModel" "foundAt") ∈ zTW := zin4 (List.mem_of_getElem? (i := 16) rfl)
theorem q737 : (Jvm.Cond.superclass "SurveyStoreModel" "java/lang/Object") ∈ zTW := zin4 (List.mem_of_getElem? (i := 17) rfl)
theorem q738 : (Jvm.Cond.methodLink "SurveyStoreLaw" (65 : Nat) ({ cls := "SurveyStoreModel", name := "thrown", desc := "()I" } : Jvm.MethodName)) ∈ zTW := zin4 (List.mem_of_getElem? (i := 18) rfl)
theorem q739 : (Jvm.Cond.instanceMethod ({ cls := "SurveyStoreModel", name := "thrown", desc := "()I" } : Jvm.MethodName)) ∈ zTW := zin4 (List.mem_of_getElem? (i := 19) rfl)
theorem q740 : (Jvm.Cond.selects "SurveyStoreModel" ({ cls := "SurveyStoreModel", name := "thrown", desc := "()I" } : Jvm.MethodName) ({ cls := "SurveyStoreModel", name := "thrown", desc := "()I" } : Jvm.MethodName)) ∈ zTW := zin4 (List.mem_of_getElem? (i := 20) rfl)
theorem q741 : (Jvm.Cond.code ({ cls := "SurveyStoreModel", name := "thrown", desc := "()I" } : Jvm.MethodName) prog_8_method_2_code (1 : Nat) (Option.some Jvm.ClassFile.FieldType.int)) ∈ zTW := zin4 (List.mem_of_getElem? (i := 21) rfl)
theorem q742 : (Jvm.Cond.methodLink "SurveyStoreLaw" (58 : Nat) ({ cls := "SurveyStoreModel", name := "kind", desc := "(II)Z" } : Jvm.MethodName)) ∈ zTW := zin4 (List.mem_of_getElem? (i := 22) rfl)
theorem q743 : (Jvm.Cond.instanceMethod ({ cls := "SurveyStoreModel", name := "kind", desc := "(II)Z" } : Jvm.MethodName)) ∈ zTW := zin4 (List.mem_of_getElem? (i := 23) rfl)
theorem q744 : (Jvm.Cond.selects "SurveyStoreModel" ({ cls := "SurveyStoreModel", name := "kind", desc := "(II)Z" } : Jvm.MethodName) ({ cls := "SurveyStoreModel", name := "kind", desc := "(II)Z" } : Jvm.MethodName)) ∈ zTW := zin4 (List.mem_of_getElem? (i := 24) rfl)
theorem q745 : (Jvm.Cond.code ({ cls := "SurveyStoreModel", name := "kind", desc := "(II)Z" } : Jvm.MethodName) prog_8_method_10_code (3 : Nat) (Option.some Jvm.ClassFile.FieldType.boolean)) ∈ zTW := zin4 (List.mem_of_getElem? (i := 25) rfl)
theorem q746 : (Jvm.Cond.methodLink "SurveyStoreModel" (102 : Nat) ({ cls := "SurveyStoreModel", name := "isLayer", desc := "(I)Z" } : Jvm.MethodName)) ∈ zTW := zin4 (List.mem_of_getElem? (i := 26) rfl)
theorem q747 : (Jvm.Cond.static ({ cls := "SurveyStoreModel", name := "isLayer", desc := "(I)Z" } : Jvm.MethodName)) ∈ zTW := zin4 (List.mem_of_getElem? (i := 27) rfl)
theorem q748 : (Jvm.Cond.code ({ cls := "SurveyStoreModel", name := "isLayer", desc := "(I)Z" } : Jvm.MethodName) prog_8_method_4_code (1 : Nat) (Option.some Jvm.ClassFile.FieldType.boolean)) ∈ zTW := zin4 (List.mem_of_getElem? (i := 28) rfl)
theorem q749 : (Jvm.Cond.methodLink "SurveyStoreLaw" (64 : Nat) ({ cls := "SurveyStoreModel", name := "branch", desc := "(II)V" } : Jvm.MethodName)) ∈ zTW := zin4 (List.mem_of_getElem? (i := 29) rfl)
theorem q750 : (Jvm.Cond.instanceMethod ({ cls := "SurveyStoreModel", name := "branch", desc := "(II)V" } : Jvm.MethodName)) ∈ zTW := zin4 (List.mem_of_getElem? (i := 30) rfl)
theorem q751 : (Jvm.Cond.selects "SurveyStoreModel" ({ cls := "SurveyStoreModel", name := "branch", desc := "(II)V" } : Jvm.MethodName) ({ cls := "SurveyStoreModel", name := "branch", desc := "(II)V" } : Jvm.MethodName)) ∈ zTW := zin4 (List.mem_of_getElem? (i := 31) rfl)
theorem q752 : (Jvm.Cond.code ({ cls := "SurveyStoreModel", name := "branch", desc := "(II)V" } : Jvm.MethodName) prog_8_method_12_code (3 : Nat) (Option.none : Option Jvm.ClassFile.FieldType)) ∈ zTW := zin4 (List.mem_of_getElem? (i := 32) rfl)
theorem q753 : (Jvm.Cond.methodLink "SurveyStoreModel" (93 : Nat) ({ cls := "SurveyStoreModel", name := "isCommit", desc := "(I)Z" } : Jvm.MethodName)) ∈ zTW := zin4 (List.mem_of_getElem? (i := 33) rfl)
theorem q754 : (Jvm.Cond.privateMethod ({ cls := "SurveyStoreModel", name := "isCommit", desc := "(I)Z" } : Jvm.MethodName)) ∈ zTW := zin4 (List.mem_of_getElem? (i := 34) rfl)
theorem q755 : (Jvm.Cond.instanceMethod ({ cls := "SurveyStoreModel", name := "isCommit", desc := "(I)Z" } : Jvm.MethodName)) ∈ zTW := zin4 (List.mem_of_getElem? (i := 35) rfl)
theorem q756 : (Jvm.Cond.code ({ cls := "SurveyStoreModel", name := "isCommit", desc := "(I)Z" } : Jvm.MethodName) prog_8_method_6_code (2 : Nat) (Option.some Jvm.ClassFile.FieldType.boolean)) ∈ zTW := zin4 (List.mem_of_getElem? (i := 36) rfl)
theorem q757 : (Jvm.Cond.methodLink "SurveyStoreModel" (105 : Nat) ({ cls := "SurveyStoreModel", name := "become", desc := "(II)V" } : Jvm.MethodName)) ∈ zTW := zin4 (List.mem_of_getElem? (i := 37) rfl)
theorem q758 : (Jvm.Cond.privateMethod ({ cls := "SurveyStoreModel", name := "become", desc := "(II)V" } : Jvm.MethodName)) ∈ zTW := zin4 (List.mem_of_getElem? (i := 38) rfl)
theorem q759 : (Jvm.Cond.instanceMethod ({ cls := "SurveyStoreModel", name := "become", desc := "(II)V" } : Jvm.MethodName)) ∈ zTW := zin4 (List.mem_of_getElem? (i := 39) rfl)
theorem q760 : (Jvm.Cond.code ({ cls := "SurveyStoreModel", name := "become", desc := "(II)V" } : Jvm.MethodName) prog_8_method_11_code (4 : Nat) (Option.none : Option Jvm.ClassFile.FieldType)) ∈ zTW := zin4 (List.mem_of_getElem? (i := 40) rfl)
theorem q761 : (Jvm.Cond.methodLink "SurveyStoreLaw" (73 : Nat) ({ cls := "SurveyStoreModel", name := "drop", desc := "(I)Z" } : Jvm.MethodName)) ∈ zTW := zin4 (List.mem_of_getElem? (i := 41) rfl)
theorem q762 : (Jvm.Cond.instanceMethod ({ cls := "SurveyStoreModel", name := "drop", desc := "(I)Z" } : Jvm.MethodName)) ∈ zTW := zin4 (List.mem_of_getElem? (i := 42) rfl)
theorem q763 : (Jvm.Cond.selects "SurveyStoreModel" ({ cls := "SurveyStoreModel", name := "drop", desc := "(I)Z" } : Jvm.MethodName) ({ cls := "SurveyStoreModel", name := "drop", desc := "(I)Z" } : Jvm.MethodName)) ∈ zTW := zin4 (List.mem_of_getElem? (i := 43) rfl)
theorem q764 : (Jvm.Cond.code ({ cls := "SurveyStoreModel", name := "drop", desc := "(I)Z" } : Jvm.MethodName) prog_8_method_13_code (3 : Nat) (Option.some Jvm.ClassFile.FieldType.boolean)) ∈ zTW := zin4 (List.mem_of_getElem? (i := 44) rfl)
theorem q765 : (Jvm.Cond.methodLink "SurveyStoreModel" (97 : Nat) ({ cls := "SurveyStoreModel", name := "isBranch", desc := "(I)Z" } : Jvm.MethodName)) ∈ zTW := zin4 (List.mem_of_getElem? (i := 45) rfl)
theorem q766 : (Jvm.Cond.privateMethod ({ cls := "SurveyStoreModel", name := "isBranch", desc := "(I)Z" } : Jvm.MethodName)) ∈ zTW := zin4 (List.mem_of_getElem? (i := 46) rfl)
theorem q767 : (Jvm.Cond.instanceMethod ({ cls := "SurveyStoreModel", name := "isBranch", desc := "(I)Z" } : Jvm.MethodName)) ∈ zTW := zin4 (List.mem_of_getElem? (i := 47) rfl)
theorem q768 : (Jvm.Cond.code ({ cls := "SurveyStoreModel", name := "isBranch", desc := "(I)Z" } : Jvm.MethodName) prog_8_method_5_code (2 : Nat) (Option.some Jvm.ClassFile.FieldType.boolean)) ∈ zTW := zin4 (List.mem_of_getElem? (i := 48) rfl)
theorem q769 : (Jvm.Cond.methodLink "SurveyStoreLaw" (78 : Nat) ({ cls := "SurveyStoreModel", name := "region", desc := "(IIII)Z" } : Jvm.MethodName)) ∈ zTW := zin4 (List.mem_of_getElem? (i := 49) rfl)
theorem q770 : (Jvm.Cond.instanceMethod ({ cls := "SurveyStoreModel", name := "region", desc := "(IIII)Z" } : Jvm.MethodName)) ∈ zTW := zin4 (List.mem_of_getElem? (i := 50) rfl)
theorem q771 : (Jvm.Cond.selects "SurveyStoreModel" ({ cls := "SurveyStoreModel", name := "region", desc := "(IIII)Z" } : Jvm.MethodName) ({ cls := "SurveyStoreModel", name := "region", desc := "(IIII)Z" } : Jvm.MethodName)) ∈ zTW := zin4 (List.mem_of_getElem? (i := 51) rfl)
theorem q772 : (Jvm.Cond.code ({ cls := "SurveyStoreModel", name := "region", desc := "(IIII)Z" } : Jvm.MethodName) prog_8_method_14_code (5 : Nat) (Option.some Jvm.ClassFile.FieldType.boolean)) ∈ zTW := zin4 (List.mem_of_getElem? (i := 52) rfl)
theorem q773 : (Jvm.Cond.methodLink "SurveyStoreLaw" (82 : Nat) ({ cls := "SurveyStoreModel", name := "paint", desc := "(III)V" } : Jvm.MethodName)) ∈ zTW := zin4 (List.mem_of_getElem? (i := 53) rfl)
theorem q774 : (Jvm.Cond.instanceMethod ({ cls := "SurveyStoreModel", name := "paint", desc := "(III)V" } : Jvm.MethodName)) ∈ zTW := zin4 (List.mem_of_getElem? (i := 54) rfl)
theorem q775 : (Jvm.Cond.selects "SurveyStoreModel" ({ cls := "SurveyStoreModel", name := "paint", desc := "(III)V" } : Jvm.MethodName) ({ cls := "SurveyStoreModel", name := "paint", desc := "(III)V" } : Jvm.MethodName)) ∈ zTW := zin4 (List.mem_of_getElem? (i := 55) rfl)
theorem q776 : (Jvm.Cond.code ({ cls := "SurveyStoreModel", name := "paint", desc := "(III)V" } : Jvm.MethodName) prog_8_method_16_code (6 : Nat) (Option.none : Option Jvm.ClassFile.FieldType)) ∈ zTW := zin4 (List.mem_of_getElem? (i := 56) rfl)
theorem q777 : (Jvm.Cond.methodLink "SurveyStoreModel" (116 : Nat) ({ cls := "SurveyStoreModel", name := "isValue", desc := "(I)Z" } : Jvm.MethodName)) ∈ zTW := zin4 (List.mem_of_getElem? (i := 57) rfl)
theorem q778 : (Jvm.Cond.static ({ cls := "SurveyStoreModel", name := "isValue", desc := "(I)Z" } : Jvm.MethodName)) ∈ zTW := zin4 (List.mem_of_getElem? (i := 58) rfl)
theorem q779 : (Jvm.Cond.code ({ cls := "SurveyStoreModel", name := "isValue", desc := "(I)Z" } : Jvm.MethodName) prog_8_method_8_code (1 : Nat) (Option.some Jvm.ClassFile.FieldType.boolean)) ∈ zTW := zin4 (List.mem_of_getElem? (i := 59) rfl)
theorem q780 : (Jvm.Cond.constant "SurveyStoreModel" (100 : Nat) (-1000000 : Int32)) ∈ zTW := zin4 (List.mem_of_getElem? (i := 60) rfl)
theorem q781 : (Jvm.Cond.constant "SurveyStoreModel" (101 : Nat) (1000000 : Int32)) ∈ zTW := zin4 (List.mem_of_getElem? (i := 61) rfl)
theorem q782 : (Jvm.Cond.methodLink "SurveyStoreModel" (119 : Nat) ({ cls := "SurveyStoreModel", name := "fails", desc := "(Z)Z" } : Jvm.MethodName)) ∈ zTW := zin4 (List.mem_of_getElem? (i := 62) rfl)
theorem q783 : (Jvm.Cond.privateMethod ({ cls := "SurveyStoreModel", name := "fails", desc := "(Z)Z" } : Jvm.MethodName)) ∈ zTW := zin4 (List.mem_of_getElem? (i := 63) rfl)
theorem q784 : (Jvm.Cond.instanceMethod ({ cls := "SurveyStoreModel", name := "fails", desc := "(Z)Z" } : Jvm.MethodName)) ∈ zTW := zin4 (List.mem_of_getElem? (i := 64) rfl)
theorem q785 : (Jvm.Cond.code ({ cls := "SurveyStoreModel", name := "fails", desc := "(Z)Z" } : Jvm.MethodName) prog_8_method_3_code (2 : Nat) (Option.some Jvm.ClassFile.FieldType.boolean)) ∈ zTW := zin4 (List.mem_of_getElem? (i := 65) rfl)
theorem q786 : (Jvm.Cond.methodLink "SurveyStoreModel" (123 : Nat) ({ cls := "SurveyStoreModel", name := "cellOf", desc := "(III)I" } : Jvm.MethodName)) ∈ zTW := zin4 (List.mem_of_getElem? (i := 66) rfl)
theorem q787 : (Jvm.Cond.static ({ cls := "SurveyStoreModel", name := "cellOf", desc := "(III)I" } : Jvm.MethodName)) ∈ zTW := zin4 (List.mem_of_getElem? (i := 67) rfl)
theorem q788 : (Jvm.Cond.code ({ cls := "SurveyStoreModel", name := "cellOf", desc := "(III)I" } : Jvm.MethodName) prog_8_method_9_code (3 : Nat) (Option.some Jvm.ClassFile.FieldType.int)) ∈ zTW := zin4 (List.mem_of_getElem? (i := 68) rfl)
theorem q789 : (Jvm.Cond.methodLink "SurveyStoreModel" (127 : Nat) ({ cls := "SurveyStoreModel", name := "give", desc := "(III)V" } : Jvm.MethodName)) ∈ zTW := zin4 (List.mem_of_getElem? (i := 69) rfl)
theorem q790 : (Jvm.Cond.privateMethod ({ cls := "SurveyStoreModel", name := "give", desc := "(III)V" } : Jvm.MethodName)) ∈ zTW := zin4 (List.mem_of_getElem? (i := 70) rfl)
theorem q791 : (Jvm.Cond.instanceMethod ({ cls := "SurveyStoreModel", name := "give", desc := "(III)V" } : Jvm.MethodName)) ∈ zTW := zin4 (List.mem_of_getElem? (i := 71) rfl)
theorem q792 : (Jvm.Cond.code ({ cls := "SurveyStoreModel", name := "give", desc := "(III)V" } : Jvm.MethodName) prog_8_method_15_code (4 : Nat) (Option.none : Option Jvm.ClassFile.FieldType)) ∈ zTW := zin4 (List.mem_of_getElem? (i := 72) rfl)
theorem q793 : (Jvm.Cond.constant "SurveyStoreModel" (115 : Nat) (98304 : Int32)) ∈ zTW := zin4 (List.mem_of_getElem? (i := 73) rfl)
theorem q794 : (Jvm.Cond.methodLink "SurveyStoreLaw" (87 : Nat) ({ cls := "SurveyStoreModel", name := "corner", desc := "(III)Z" } : Jvm.MethodName)) ∈ zTW := zin4 (List.mem_of_getElem? (i := 74) rfl)
theorem q795 : (Jvm.Cond.instanceMethod ({ cls := "SurveyStoreModel", name := "corner", desc := "(III)Z" } : Jvm.MethodName)) ∈ zTW := zin4 (List.mem_of_getElem? (i := 75) rfl)
theorem q796 : (Jvm.Cond.selects "SurveyStoreModel" ({ cls := "SurveyStoreModel", name := "corner", desc := "(III)Z" } : Jvm.MethodName) ({ cls := "SurveyStoreModel", name := "corner", desc := "(III)Z" } : Jvm.MethodName)) ∈ zTW := zin4 (List.mem_of_getElem? (i := 76) rfl)
theorem q797 : (Jvm.Cond.code ({ cls := "SurveyStoreModel", name := "corner", desc := "(III)Z" } : Jvm.MethodName) prog_8_method_17_code (4 : Nat) (Option.some Jvm.ClassFile.FieldType.boolean)) ∈ zTW := zin4 (List.mem_of_getElem? (i := 77) rfl)
theorem q798 : (Jvm.Cond.methodLink "SurveyStoreLaw" (91 : Nat) ({ cls := "SurveyStoreModel", name := "polygon", desc := "(IIII)V" } : Jvm.MethodName)) ∈ zTW := zin4 (List.mem_of_getElem? (i := 78) rfl)
theorem q799 : (Jvm.Cond.instanceMethod ({ cls := "SurveyStoreModel", name := "polygon", desc := "(IIII)V" } : Jvm.MethodName)) ∈ zTW := zin4 (List.mem_of_getElem? (i := 79) rfl)
theorem q800 : (Jvm.Cond.selects "SurveyStoreModel" ({ cls := "SurveyStoreModel", name := "polygon", desc := "(IIII)V" } : Jvm.MethodName) ({ cls := "SurveyStoreModel", name := "polygon", desc := "(IIII)V" } : Jvm.MethodName)) ∈ zTW := zin4 (List.mem_of_getElem? (i := 80) rfl)
theorem q801 : (Jvm.Cond.code ({ cls := "SurveyStoreModel", name := "polygon", desc := "(IIII)V" } : Jvm.MethodName) prog_8_method_18_code (9 : Nat) (Option.none : Option Jvm.ClassFile.FieldType)) ∈ zTW := zin4 (List.mem_of_getElem? (i := 81) rfl)
theorem q802 : (Jvm.Cond.methodLink "SurveyStoreModel" (131 : Nat) ({ cls := "SurveyStoreModel", name := "meets", desc := "(IIII)Z" } : Jvm.MethodName)) ∈ zTW := zin4 (List.mem_of_getElem? (i := 82) rfl)
theorem q803 : (Jvm.Cond.privateMethod ({ cls := "SurveyStoreModel", name := "meets", desc := "(IIII)Z" } : Jvm.MethodName)) ∈ zTW := zin4 (List.mem_of_getElem? (i := 83) rfl)
theorem q804 : (Jvm.Cond.instanceMethod ({ cls := "SurveyStoreModel", name := "meets", desc := "(IIII)Z" } : Jvm.MethodName)) ∈ zTW := zin4 (List.mem_of_getElem? (i := 84) rfl)
theorem q805 : (Jvm.Cond.code ({ cls := "SurveyStoreModel", name := "meets", desc := "(IIII)Z" } : Jvm.MethodName) prog_8_method_19_code (11 : Nat) (Option.some Jvm.ClassFile.FieldType.boolean)) ∈ zTW := zin4 (List.mem_of_getElem? (i := 85) rfl)
theorem q806 : (Jvm.Cond.methodLink "SurveyStoreLaw" (95 : Nat) ({ cls := "SurveyStoreModel", name := "copy", desc := "(IIIIII)V" } : Jvm.MethodName)) ∈ zTW := zin4 (List.mem_of_getElem? (i := 86) rfl)
theorem q807 : (Jvm.Cond.instanceMethod ({ cls := "SurveyStoreModel", name := "copy", desc := "(IIIIII)V" } : Jvm.MethodName)) ∈ zTW := zin4 (List.mem_of_getElem? (i := 87) rfl)
theorem q808 : (Jvm.Cond.selects "SurveyStoreModel" ({ cls := "SurveyStoreModel", name := "copy", desc := "(IIIIII)V" } : Jvm.MethodName) ({ cls := "SurveyStoreModel", name := "copy", desc := "(IIIIII)V" } : Jvm.MethodName)) ∈ zTW := zin4 (List.mem_of_getElem? (i := 88) rfl)
theorem q809 : (Jvm.Cond.code ({ cls := "SurveyStoreModel", name := "copy", desc := "(IIIIII)V" } : Jvm.MethodName) prog_8_method_20_code (12 : Nat) (Option.none : Option Jvm.ClassFile.FieldType)) ∈ zTW := zin4 (List.mem_of_getElem? (i := 89) rfl)
theorem q810 : (Jvm.Cond.methodLink "SurveyStoreLaw" (99 : Nat) ({ cls := "SurveyStoreModel", name := "entry", desc := "(III)Z" } : Jvm.MethodName)) ∈ zTW := zin4 (List.mem_of_getElem? (i := 90) rfl)
theorem q811 : (Jvm.Cond.instanceMethod ({ cls := "SurveyStoreModel", name := "entry", desc := "(III)Z" } : Jvm.MethodName)) ∈ zTW := zin4 (List.mem_of_getElem? (i := 91) rfl)
theorem q812 : (Jvm.Cond.selects "SurveyStoreModel" ({ cls := "SurveyStoreModel", name := "entry", desc := "(III)Z" } : Jvm.MethodName) ({ cls := "SurveyStoreModel", name := "entry", desc := "(III)Z" } : Jvm.MethodName)) ∈ zTW := zin4 (List.mem_of_getElem? (i := 92) rfl)
theorem q813 : (Jvm.Cond.code ({ cls := "SurveyStoreModel", name := "entry", desc := "(III)Z" } : Jvm.MethodName) prog_8_method_21_code (4 : Nat) (Option.some Jvm.ClassFile.FieldType.boolean)) ∈ zTW := zin4 (List.mem_of_getElem? (i := 93) rfl)
theorem q814 : (Jvm.Cond.methodLink "SurveyStoreLaw" (102 : Nat) ({ cls := "SurveyStoreModel", name := "map", desc := "(II)V" } : Jvm.MethodName)) ∈ zTW := zin4 (List.mem_of_getElem? (i := 94) rfl)
theorem q815 : (Jvm.Cond.instanceMethod ({ cls := "SurveyStoreModel", name := "map", desc := "(II)V" } : Jvm.MethodName)) ∈ zTW := zin4 (List.mem_of_getElem? (i := 95) rfl)
theorem q816 : (Jvm.Cond.selects "SurveyStoreModel" ({ cls := "SurveyStoreModel", name := "map", desc := "(II)V" } : Jvm.MethodName) ({ cls := "SurveyStoreModel", name := "map", desc := "(II)V" } : Jvm.MethodName)) ∈ zTW := zin4 (List.mem_of_getElem? (i := 96) rfl)
theorem q817 : (Jvm.Cond.code ({ cls := "SurveyStoreModel", name := "map", desc := "(II)V" } : Jvm.MethodName) prog_8_method_22_code (9 : Nat) (Option.none : Option Jvm.ClassFile.FieldType)) ∈ zTW := zin4 (List.mem_of_getElem? (i := 97) rfl)
theorem q818 : (Jvm.Cond.methodLink "SurveyStoreLaw" (105 : Nat) ({ cls := "SurveyStoreModel", name := "combine", desc := "(IIII)V" } : Jvm.MethodName)) ∈ zTW := zin4 (List.mem_of_getElem? (i := 98) rfl)
theorem q819 : (Jvm.Cond.instanceMethod ({ cls := "SurveyStoreModel", name := "combine", desc := "(IIII)V" } : Jvm.MethodName)) ∈ zTW := zin4 (List.mem_of_getElem? (i := 99) rfl)
theorem q820 : (Jvm.Cond.selects "SurveyStoreModel" ({ cls := "SurveyStoreModel", name := "combine", desc := "(IIII)V" } : Jvm.MethodName) ({ cls := "SurveyStoreModel", name := "combine", desc := "(IIII)V" } : Jvm.MethodName)) ∈ zTW := zin4 (List.mem_of_getElem? (i := 100) rfl)
theorem q821 : (Jvm.Cond.code ({ cls := "SurveyStoreModel", name := "combine", desc := "(IIII)V" } : Jvm.MethodName) prog_8_method_23_code (12 : Nat) (Option.none : Option Jvm.ClassFile.FieldType)) ∈ zTW := zin4 (List.mem_of_getElem? (i := 101) rfl)
theorem q822 : (Jvm.Cond.methodLink "SurveyStoreLaw" (109 : Nat) ({ cls := "SurveyStoreModel", name := "commit", desc := "(I)I" } : Jvm.MethodName)) ∈ zTW := zin4 (List.mem_of_getElem? (i := 102) rfl)
theorem q823 : (Jvm.Cond.instanceMethod ({ cls := "SurveyStoreModel", name := "commit", desc := "(I)I" } : Jvm.MethodName)) ∈ zTW := zin4 (List.mem_of_getElem? (i := 103) rfl)
theorem q824 : (Jvm.Cond.selects "SurveyStoreModel" ({ cls := "SurveyStoreModel", name := "commit", desc := "(I)I" } : Jvm.MethodName) ({ cls := "SurveyStoreModel", name := "commit", desc := "(I)I" } : Jvm.MethodName)) ∈ zTW := zin4 (List.mem_of_getElem? (i := 104) rfl)
theorem q825 : (Jvm.Cond.code ({ cls := "SurveyStoreModel", name := "commit", desc := "(I)I" } : Jvm.MethodName) prog_8_method_26_code (4 : Nat) (Option.some Jvm.ClassFile.FieldType.int)) ∈ zTW := zin4 (List.mem_of_getElem? (i := 105) rfl)
theorem q826 : (Jvm.Cond.methodLink "SurveyStoreModel" (135 : Nat) ({ cls := "SurveyStoreModel", name := "isChanged", desc := "(I)Z" } : Jvm.MethodName)) ∈ zTW := zin4 (List.mem_of_getElem? (i := 106) rfl)
theorem q827 : (Jvm.Cond.privateMethod ({ cls := "SurveyStoreModel", name := "isChanged", desc := "(I)Z" } : Jvm.MethodName)) ∈ zTW := zin4 (List.mem_of_getElem? (i := 107) rfl)
theorem q828 : (Jvm.Cond.instanceMethod ({ cls := "SurveyStoreModel", name := "isChanged", desc := "(I)Z" } : Jvm.MethodName)) ∈ zTW := zin4 (List.mem_of_getElem? (i := 108) rfl)
theorem q829 : (Jvm.Cond.code ({ cls := "SurveyStoreModel", name := "isChanged", desc := "(I)Z" } : Jvm.MethodName) prog_8_method_24_code (4 : Nat) (Option.some Jvm.ClassFile.FieldType.boolean)) ∈ zTW := zin4 (List.mem_of_getElem? (i := 109) rfl)
theorem q830 : (Jvm.Cond.methodLink "SurveyStoreModel" (138 : Nat) ({ cls := "SurveyStoreModel", name := "unsettled", desc := "(I)I" } : Jvm.MethodName)) ∈ zTW := zin4 (List.mem_of_getElem? (i := 110) rfl)
theorem q831 : (Jvm.Cond.privateMethod ({ cls := "SurveyStoreModel", name := "unsettled", desc := "(I)I" } : Jvm.MethodName)) ∈ zTW := zin4 (List.mem_of_getElem? (i := 111) rfl)
theorem q832 : (Jvm.Cond.instanceMethod ({ cls := "SurveyStoreModel", name := "unsettled", desc := "(I)I" } : Jvm.MethodName)) ∈ zTW := zin4 (List.mem_of_getElem? (i := 112) rfl)
theorem q833 : (Jvm.Cond.code ({ cls := "SurveyStoreModel", name := "unsettled", desc := "(I)I" } : Jvm.MethodName) prog_8_method_25_code (4 : Nat) (Option.some Jvm.ClassFile.FieldType.int)) ∈ zTW := zin4 (List.mem_of_getElem? (i := 113) rfl)
theorem q834 : (Jvm.Cond.methodLink "SurveyStoreLaw" (113 : Nat) ({ cls := "SurveyStoreModel", name := "merge", desc := "(II)I" } : Jvm.MethodName)) ∈ zTW := zin4 (List.mem_of_getElem? (i := 114) rfl)
theorem q835 : (Jvm.Cond.instanceMethod ({ cls := "SurveyStoreModel", name := "merge", desc := "(II)I" } : Jvm.MethodName)) ∈ zTW := zin4 (List.mem_of_getElem? (i := 115) rfl)
theorem q836 : (Jvm.Cond.selects "SurveyStoreModel" ({ cls := "SurveyStoreModel", name := "merge", desc := "(II)I" } : Jvm.MethodName) ({ cls := "SurveyStoreModel", name := "merge", desc := "(II)I" } : Jvm.MethodName)) ∈ zTW := zin4 (List.mem_of_getElem? (i := 116) rfl)
theorem q837 : (Jvm.Cond.code ({ cls := "SurveyStoreModel", name := "merge", desc := "(II)I" } : Jvm.MethodName) prog_8_method_34_code (9 : Nat) (Option.some Jvm.ClassFile.FieldType.int)) ∈ zTW := zin4 (List.mem_of_getElem? (i := 117) rfl)
theorem q838 : (Jvm.Cond.methodLink "SurveyStoreModel" (142 : Nat) ({ cls := "SurveyStoreModel", name := "ancestors", desc := "(I)I" } : Jvm.MethodName)) ∈ zTW := zin4 (List.mem_of_getElem? (i := 118) rfl)
theorem q839 : (Jvm.Cond.privateMethod ({ cls := "SurveyStoreModel", name := "ancestors", desc := "(I)I" } : Jvm.MethodName)) ∈ zTW := zin4 (List.mem_of_getElem? (i := 119) rfl)
theorem q840 : (Jvm.Cond.instanceMethod ({ cls := "SurveyStoreModel", name := "ancestors", desc := "(I)I" } : Jvm.MethodName)) ∈ zTW := zin4 (List.mem_of_getElem? (i := 120) rfl)
theorem q841 : (Jvm.Cond.code ({ cls := "SurveyStoreModel", name := "ancestors", desc := "(I)I" } : Jvm.MethodName) prog_8_method_27_code (4 : Nat) (Option.some Jvm.ClassFile.FieldType.int)) ∈ zTW := zin4 (List.mem_of_getElem? (i := 121) rfl)
theorem q842 : (Jvm.Cond.methodLink "SurveyStoreModel" (158 : Nat) ({ cls := "SurveyStoreModel", name := "base", desc := "(II)V" } : Jvm.MethodName)) ∈ zTW := zin4 (List.mem_of_getElem? (i := 122) rfl)
theorem q843 : (Jvm.Cond.privateMethod ({ cls := "SurveyStoreModel", name := "base", desc := "(II)V" } : Jvm.MethodName)) ∈ zTW := zin4 (List.mem_of_getElem? (i := 123) rfl)
theorem q844 : (Jvm.Cond.instanceMethod ({ cls := "SurveyStoreModel", name := "base", desc := "(II)V" } : Jvm.MethodName)) ∈ zTW := zin4 (List.mem_of_getElem? (i := 124) rfl)
theorem q845 : (Jvm.Cond.code ({ cls := "SurveyStoreModel", name := "base", desc := "(II)V" } : Jvm.MethodName) prog_8_method_32_code (6 : Nat) (Option.none : Option Jvm.ClassFile.FieldType)) ∈ zTW := zin4 (List.mem_of_getElem? (i := 125) rfl)
theorem q846 : (Jvm.Cond.methodLink "SurveyStoreModel" (149 : Nat) ({ cls := "SurveyStoreModel", name := "beginBase", desc := "(III)V" } : Jvm.MethodName)) ∈ zTW := zin4 (List.mem_of_getElem? (i := 126) rfl)
theorem q847 : (Jvm.Cond.privateMethod ({ cls := "SurveyStoreModel", name := "beginBase", desc := "(III)V" } : Jvm.MethodName)) ∈ zTW := zin4 (List.mem_of_getElem? (i := 127) rfl)
theorem q848 : (Jvm.Cond.instanceMethod ({ cls := "SurveyStoreModel", name := "beginBase", desc := "(III)V" } : Jvm.MethodName)) ∈ zTW := zin4 (List.mem_of_getElem? (i := 128) rfl)
theorem q849 : (Jvm.Cond.code ({ cls := "SurveyStoreModel", name := "beginBase", desc := "(III)V" } : Jvm.MethodName) prog_8_method_29_code (4 : Nat) (Option.none : Option Jvm.ClassFile.FieldType)) ∈ zTW := zin4 (List.mem_of_getElem? (i := 129) rfl)
theorem q850 : (Jvm.Cond.methodLink "SurveyStoreModel" (145 : Nat) ({ cls := "SurveyStoreModel", name := "nearestOf", desc := "(II)I" } : Jvm.MethodName)) ∈ zTW := zin4 (List.mem_of_getElem? (i := 130) rfl)
theorem q851 : (Jvm.Cond.privateMethod ({ cls := "SurveyStoreModel", name := "nearestOf", desc := "(II)I" } : Jvm.MethodName)) ∈ zTW := zin4 (List.mem_of_getElem? (i := 131) rfl)
theorem q852 : (Jvm.Cond.instanceMethod ({ cls := "SurveyStoreModel", name := "nearestOf", desc := "(II)I" } : Jvm.MethodName)) ∈ zTW := zin4 (List.mem_of_getElem? (i := 132) rfl)
theorem q853 : (Jvm.Cond.code ({ cls := "SurveyStoreModel", name := "nearestOf", desc := "(II)I" } : Jvm.MethodName) prog_8_method_28_code (8 : Nat) (Option.some Jvm.ClassFile.FieldType.int)) ∈ zTW := zin4 (List.mem_of_getElem? (i := 133) rfl)
theorem q854 : (Jvm.Cond.methodLink "SurveyStoreModel" (152 : Nat) ({ cls := "SurveyStoreModel", name := "next", desc := "(II)I" } : Jvm.MethodName)) ∈ zTW := zin4 (List.mem_of_getElem? (i := 134) rfl)
theorem q855 : (Jvm.Cond.static ({ cls := "SurveyStoreModel", name := "next", desc := "(II)I" } : Jvm.MethodName)) ∈ zTW := zin4 (List.mem_of_getElem? (i := 135) rfl)
theorem q856 : (Jvm.Cond.code ({ cls := "SurveyStoreModel", name := "next", desc := "(II)I" } : Jvm.MethodName) prog_8_method_30_code (3 : Nat) (Option.some Jvm.ClassFile.FieldType.int)) ∈ zTW := zin4 (List.mem_of_getElem? (i := 136) rfl)
theorem q857 : (Jvm.Cond.methodLink "SurveyStoreModel" (155 : Nat) ({ cls := "SurveyStoreModel", name := "joinBase", desc := "(II)V" } : Jvm.MethodName)) ∈ zTW := zin4 (List.mem_of_getElem? (i := 137) rfl)
theorem q858 : (Jvm.Cond.privateMethod ({ cls := "SurveyStoreModel", name := "joinBase", desc := "(II)V" } : Jvm.MethodName)) ∈ zTW := zin4 (List.mem_of_getElem? (i := 138) rfl)
theorem q859 : (Jvm.Cond.instanceMethod ({ cls := "SurveyStoreModel", name := "joinBase", desc := "(II)V" } : Jvm.MethodName)) ∈ zTW := zin4 (List.mem_of_getElem? (i := 139) rfl)
theorem q860 : (Jvm.Cond.code ({ cls := "SurveyStoreModel", name := "joinBase", desc := "(II)V" } : Jvm.MethodName) prog_8_method_31_code (7 : Nat) (Option.none : Option Jvm.ClassFile.FieldType)) ∈ zTW := zin4 (List.mem_of_getElem? (i := 140) rfl)
theorem q861 : (Jvm.Cond.methodLink "SurveyStoreModel" (161 : Nat) ({ cls := "SurveyStoreModel", name := "madeIn", desc := "(I)I" } : Jvm.MethodName)) ∈ zTW := zin4 (List.mem_of_getElem? (i := 141) rfl)
theorem q862 : (Jvm.Cond.privateMethod ({ cls := "SurveyStoreModel", name := "madeIn", desc := "(I)I" } : Jvm.MethodName)) ∈ zTW := zin4 (List.mem_of_getElem? (i := 142) rfl)
theorem q863 : (Jvm.Cond.instanceMethod ({ cls := "SurveyStoreModel", name := "madeIn", desc := "(I)I" } : Jvm.MethodName)) ∈ zTW := zin4 (List.mem_of_getElem? (i := 143) rfl)
theorem q864 : (Jvm.Cond.code ({ cls := "SurveyStoreModel", name := "madeIn", desc := "(I)I" } : Jvm.MethodName) prog_8_method_35_code (2 : Nat) (Option.some Jvm.ClassFile.FieldType.int)) ∈ zTW := zin4 (List.mem_of_getElem? (i := 144) rfl)
theorem q865 : (Jvm.Cond.methodLink "SurveyStoreModel" (164 : Nat) ({ cls := "SurveyStoreModel", name := "note", desc := "(IIIII)V" } : Jvm.MethodName)) ∈ zTW := zin4 (List.mem_of_getElem? (i := 145) rfl)
theorem q866 : (Jvm.Cond.privateMethod ({ cls := "SurveyStoreModel", name := "note", desc := "(IIIII)V" } : Jvm.MethodName)) ∈ zTW := zin4 (List.mem_of_getElem? (i := 146) rfl)
theorem q867 : (Jvm.Cond.instanceMethod ({ cls := "SurveyStoreModel", name := "note", desc := "(IIIII)V" } : Jvm.MethodName)) ∈ zTW := zin4 (List.mem_of_getElem? (i := 147) rfl)
theorem q868 : (Jvm.Cond.code ({ cls := "SurveyStoreModel", name := "note", desc := "(IIIII)V" } : Jvm.MethodName) prog_8_method_33_code (7 : Nat) (Option.none : Option Jvm.ClassFile.FieldType)) ∈ zTW := zin4 (List.mem_of_getElem? (i := 148) rfl)
theorem q869 : (Jvm.Cond.methodLink "SurveyStoreLaw" (117 : Nat) ({ cls := "SurveyStoreModel", name := "conflict", desc := "(III)I" } : Jvm.MethodName)) ∈ zTW := zin4 (List.mem_of_getElem? (i := 149) rfl)
theorem q870 : (Jvm.Cond.instanceMethod ({ cls := "SurveyStoreModel", name := "conflict", desc := "(III)I" } : Jvm.MethodName)) ∈ zTW := zin4 (List.mem_of_getElem? (i := 150) rfl)
theorem q871 : (Jvm.Cond.selects "SurveyStoreModel" ({ cls := "SurveyStoreModel", name := "conflict", desc := "(III)I" } : Jvm.MethodName) ({ cls := "SurveyStoreModel", name := "conflict", desc := "(III)I" } : Jvm.MethodName)) ∈ zTW := zin4 (List.mem_of_getElem? (i := 151) rfl)
theorem q872 : (Jvm.Cond.code ({ cls := "SurveyStoreModel", name := "conflict", desc := "(III)I" } : Jvm.MethodName) prog_8_method_37_code (5 : Nat) (Option.some Jvm.ClassFile.FieldType.int)) ∈ zTW := zin4 (List.mem_of_getElem? (i := 152) rfl)
theorem q873 : (Jvm.Cond.methodLink "SurveyStoreModel" (168 : Nat) ({ cls := "SurveyStoreModel", name := "isConflict", desc := "(II)Z" } : Jvm.MethodName)) ∈ zTW := zin4 (List.mem_of_getElem? (i := 153) rfl)
theorem q874 : (Jvm.Cond.privateMethod ({ cls := "SurveyStoreModel", name := "isConflict", desc := "(II)Z" } : Jvm.MethodName)) ∈ zTW := zin4 (List.mem_of_getElem? (i := 154) rfl)
theorem q875 : (Jvm.Cond.instanceMethod ({ cls := "SurveyStoreModel", name := "isConflict", desc := "(II)Z" } : Jvm.MethodName)) ∈ zTW := zin4 (List.mem_of_getElem? (i := 155) rfl)
theorem q876 : (Jvm.Cond.code ({ cls := "SurveyStoreModel", name := "isConflict", desc := "(II)Z" } : Jvm.MethodName) prog_8_method_36_code (3 : Nat) (Option.some Jvm.ClassFile.FieldType.boolean)) ∈ zTW := zin4 (List.mem_of_getElem? (i := 156) rfl)
theorem q877 : (Jvm.Cond.methodLink "SurveyStoreLaw" (121 : Nat) ({ cls := "SurveyStoreModel", name := "settle", desc := "(III)I" } : Jvm.MethodName)) ∈ zTW := zin4 (List.mem_of_getElem? (i := 157) rfl)
theorem q878 : (Jvm.Cond.instanceMethod ({ cls := "SurveyStoreModel", name := "settle", desc := "(III)I" } : Jvm.MethodName)) ∈ zTW := zin4 (List.mem_of_getElem? (i := 158) rfl)
theorem q879 : (Jvm.Cond.selects "SurveyStoreModel" ({ cls := "SurveyStoreModel", name := "settle", desc := "(III)I" } : Jvm.MethodName) ({ cls := "SurveyStoreModel", name := "settle", desc := "(III)I" } : Jvm.MethodName)) ∈ zTW := zin4 (List.mem_of_getElem? (i := 159) rfl)
theorem q880 : (Jvm.Cond.code ({ cls := "SurveyStoreModel", name := "settle", desc := "(III)I" } : Jvm.MethodName) prog_8_method_38_code (4 : Nat) (Option.some Jvm.ClassFile.FieldType.int)) ∈ zTW := zin4 (List.mem_of_getElem? (i := 160) rfl)
theorem q881 : (Jvm.Cond.methodLink "SurveyStoreLaw" (126 : Nat) ({ cls := "SurveyStoreModel", name := "value", desc := "(IIII)I" } : Jvm.MethodName)) ∈ zTW := zin4 (List.mem_of_getElem? (i := 161) rfl)
theorem q882 : (Jvm.Cond.instanceMethod ({ cls := "SurveyStoreModel", name := "value", desc := "(IIII)I" } : Jvm.MethodName)) ∈ zTW := zin4 (List.mem_of_getElem? (i := 162) rfl)
theorem q883 : (Jvm.Cond.selects "SurveyStoreModel" ({ cls := "SurveyStoreModel", name := "value", desc := "(IIII)I" } : Jvm.MethodName) ({ cls := "SurveyStoreModel", name := "value", desc := "(IIII)I" } : Jvm.MethodName)) ∈ zTW := zin4 (List.mem_of_getElem? (i := 163) rfl)
theorem q884 : (Jvm.Cond.code ({ cls := "SurveyStoreModel", name := "value", desc := "(IIII)I" } : Jvm.MethodName) prog_8_method_40_code (5 : Nat) (Option.some Jvm.ClassFile.FieldType.int)) ∈ zTW := zin4 (List.mem_of_getElem? (i := 164) rfl)
theorem q885 : (Jvm.Cond.methodLink "SurveyStoreModel" (175 : Nat) ({ cls := "SurveyStoreModel", name := "isCell", desc := "(IIII)Z" } : Jvm.MethodName)) ∈ zTW := zin4 (List.mem_of_getElem? (i := 165) rfl)
theorem q886 : (Jvm.Cond.privateMethod ({ cls := "SurveyStoreModel", name := "isCell", desc := "(IIII)Z" } : Jvm.MethodName)) ∈ zTW := zin4 (List.mem_of_getElem? (i := 166) rfl)
theorem q887 : (Jvm.Cond.instanceMethod ({ cls := "SurveyStoreModel", name := "isCell", desc := "(IIII)Z" } : Jvm.MethodName)) ∈ zTW := zin4 (List.mem_of_getElem? (i := 167) rfl)
theorem q888 : (Jvm.Cond.code ({ cls := "SurveyStoreModel", name := "isCell", desc := "(IIII)Z" } : Jvm.MethodName) prog_8_method_39_code (5 : Nat) (Option.some Jvm.ClassFile.FieldType.boolean)) ∈ zTW := zin4 (List.mem_of_getElem? (i := 168) rfl)
theorem q889 : (Jvm.Cond.methodLink "SurveyStoreModel" (172 : Nat) ({ cls := "SurveyStoreModel", name := "isPlace", desc := "(I)Z" } : Jvm.MethodName)) ∈ zTW := zin4 (List.mem_of_getElem? (i := 169) rfl)
theorem q890 : (Jvm.Cond.privateMethod ({ cls := "SurveyStoreModel", name := "isPlace", desc := "(I)Z" } : Jvm.MethodName)) ∈ zTW := zin4 (List.mem_of_getElem? (i := 170) rfl)
theorem q891 : (Jvm.Cond.instanceMethod ({ cls := "SurveyStoreModel", name := "isPlace", desc := "(I)Z" } : Jvm.MethodName)) ∈ zTW := zin4 (List.mem_of_getElem? (i := 171) rfl)
theorem q892 : (Jvm.Cond.code ({ cls := "SurveyStoreModel", name := "isPlace", desc := "(I)Z" } : Jvm.MethodName) prog_8_method_7_code (2 : Nat) (Option.some Jvm.ClassFile.FieldType.boolean)) ∈ zTW := zin4 (List.mem_of_getElem? (i := 172) rfl)
theorem q893 : (Jvm.Cond.methodLink "SurveyStoreLaw" (131 : Nat) ({ cls := "SurveyStoreModel", name := "origin", desc := "(IIIII)I" } : Jvm.MethodName)) ∈ zTW := zin4 (List.mem_of_getElem? (i := 173) rfl)
theorem q894 : (Jvm.Cond.instanceMethod ({ cls := "SurveyStoreModel", name := "origin", desc := "(IIIII)I" } : Jvm.MethodName)) ∈ zTW := zin4 (List.mem_of_getElem? (i := 174) rfl)
theorem q895 : (Jvm.Cond.selects "SurveyStoreModel" ({ cls := "SurveyStoreModel", name := "origin", desc := "(IIIII)I" } : Jvm.MethodName) ({ cls := "SurveyStoreModel", name := "origin", desc := "(IIIII)I" } : Jvm.MethodName)) ∈ zTW := zin4 (List.mem_of_getElem? (i := 175) rfl)
theorem q896 : (Jvm.Cond.code ({ cls := "SurveyStoreModel", name := "origin", desc := "(IIIII)I" } : Jvm.MethodName) prog_8_method_41_code (7 : Nat) (Option.some Jvm.ClassFile.FieldType.int)) ∈ zTW := zin4 (List.mem_of_getElem? (i := 176) rfl)
theorem q897 : (Jvm.Cond.methodLink "SurveyStoreLaw" (134 : Nat) ({ cls := "SurveyStoreModel", name := "total", desc := "(III)I" } : Jvm.MethodName)) ∈ zTW := zin4 (List.mem_of_getElem? (i := 177) rfl)
theorem q898 : (Jvm.Cond.instanceMethod ({ cls := "SurveyStoreModel", name := "total", desc := "(III)I" } : Jvm.MethodName)) ∈ zTW := zin4 (List.mem_of_getElem? (i := 178) rfl)
theorem q899 : (Jvm.Cond.selects "SurveyStoreModel" ({ cls := "SurveyStoreModel", name := "total", desc := "(III)I" } : Jvm.MethodName) ({ cls := "SurveyStoreModel", name := "total", desc := "(III)I" } : Jvm.MethodName)) ∈ zTW := zin4 (List.mem_of_getElem? (i := 179) rfl)
theorem q900 : (Jvm.Cond.code ({ cls := "SurveyStoreModel", name := "total", desc := "(III)I" } : Jvm.MethodName) prog_8_method_42_code (11 : Nat) (Option.some Jvm.ClassFile.FieldType.int)) ∈ zTW := zin4 (List.mem_of_getElem? (i := 180) rfl)
theorem q901 : (Jvm.Cond.methodLink "SurveyStoreLaw" (138 : Nat) ({ cls := "SurveyStoreModel", name := "differing", desc := "(III)I" } : Jvm.MethodName)) ∈ zTW := zin4 (List.mem_of_getElem? (i := 181) rfl)
theorem q902 : (Jvm.Cond.instanceMethod ({ cls := "SurveyStoreModel", name := "differing", desc := "(III)I" } : Jvm.MethodName)) ∈ zTW := zin4 (List.mem_of_getElem? (i := 182) rfl)
theorem q903 : (Jvm.Cond.selects "SurveyStoreModel" ({ cls := "SurveyStoreModel", name := "differing", desc := "(III)I" } : Jvm.MethodName) ({ cls := "SurveyStoreModel", name := "differing", desc := "(III)I" } : Jvm.MethodName)) ∈ zTW := zin4 (List.mem_of_getElem? (i := 183) rfl)
theorem q904 : (Jvm.Cond.code ({ cls := "SurveyStoreModel", name := "differing", desc := "(III)I" } : Jvm.MethodName) prog_8_method_43_code (6 : Nat) (Option.some Jvm.ClassFile.FieldType.int)) ∈ zTW := zin4 (List.mem_of_getElem? (i := 184) rfl)
theorem q905 : (Jvm.Cond.methodLink "SurveyStoreLaw" (142 : Nat) ({ cls := "SurveyStoreModel", name := "differs", desc := "(IIII)I" } : Jvm.MethodName)) ∈ zTW := zin4 (List.mem_of_getElem? (i := 185) rfl)
theorem q906 : (Jvm.Cond.instanceMethod ({ cls := "SurveyStoreModel", name := "differs", desc := "(IIII)I" } : Jvm.MethodName)) ∈ zTW := zin4 (List.mem_of_getElem? (i := 186) rfl)
theorem q907 : (Jvm.Cond.selects "SurveyStoreModel" ({ cls := "SurveyStoreModel", name := "differs", desc := "(IIII)I" } : Jvm.MethodName) ({ cls := "SurveyStoreModel", name := "differs", desc := "(IIII)I" } : Jvm.MethodName)) ∈ zTW := zin4 (List.mem_of_getElem? (i := 187) rfl)
theorem q908 : (Jvm.Cond.code ({ cls := "SurveyStoreModel", name := "differs", desc := "(IIII)I" } : Jvm.MethodName) prog_8_method_44_code (7 : Nat) (Option.some Jvm.ClassFile.FieldType.int)) ∈ zTW := zin4 (List.mem_of_getElem? (i := 188) rfl)
theorem q909 : (Jvm.Cond.methodLink "SurveyStoreLaw" (146 : Nat) ({ cls := "SurveyStoreModel", name := "nearest", desc := "(III)I" } : Jvm.MethodName)) ∈ zTW := zin4 (List.mem_of_getElem? (i := 189) rfl)
theorem q910 : (Jvm.Cond.instanceMethod ({ cls := "SurveyStoreModel", name := "nearest", desc := "(III)I" } : Jvm.MethodName)) ∈ zTW := zin4 (List.mem_of_getElem? (i := 190) rfl)
theorem q911 : (Jvm.Cond.selects "SurveyStoreModel" ({ cls := "SurveyStoreModel", name := "nearest", desc := "(III)I" } : Jvm.MethodName) ({ cls := "SurveyStoreModel", name := "nearest", desc := "(III)I" } : Jvm.MethodName)) ∈ zTW := zin4 (List.mem_of_getElem? (i := 191) rfl)
theorem q912 : (Jvm.Cond.code ({ cls := "SurveyStoreModel", name := "nearest", desc := "(III)I" } : Jvm.MethodName) prog_8_method_45_code (7 : Nat) (Option.some Jvm.ClassFile.FieldType.int)) ∈ zTW := zin4 (List.mem_of_getElem? (i := 192) rfl)
theorem q913 : (Jvm.Cond.methodLink "SurveyStoreLaw" (150 : Nat) ({ cls := "SurveyStoreModel", name := "about", desc := "(II)I" } : Jvm.MethodName)) ∈ zTW := zin4 (List.mem_of_getElem? (i := 193) rfl)
theorem q914 : (Jvm.Cond.instanceMethod ({ cls := "SurveyStoreModel", name := "about", desc := "(II)I" } : Jvm.MethodName)) ∈ zTW := zin4 (List.mem_of_getElem? (i := 194) rfl)
theorem q915 : (Jvm.Cond.selects "SurveyStoreModel" ({ cls := "SurveyStoreModel", name := "about", desc := "(II)I" } : Jvm.MethodName) ({ cls := "SurveyStoreModel", name := "about", desc := "(II)I" } : Jvm.MethodName)) ∈ zTW := zin4 (List.mem_of_getElem? (i := 195) rfl)
theorem q916 : (Jvm.Cond.code ({ cls := "SurveyStoreModel", name := "about", desc := "(II)I" } : Jvm.MethodName) prog_8_method_46_code (5 : Nat) (Option.some Jvm.ClassFile.FieldType.int)) ∈ zTW := zin4 (List.mem_of_getElem? (i := 196) rfl)
theorem q917 : (Jvm.Cond.methodLink "SurveyStoreLaw" (154 : Nat) ({ cls := "SurveyStoreModel", name := "blocks", desc := "(I)I" } : Jvm.MethodName)) ∈ zTW := zin4 (List.mem_of_getElem? (i := 197) rfl)
theorem q918 : (Jvm.Cond.instanceMethod ({ cls := "SurveyStoreModel", name := "blocks", desc := "(I)I" } : Jvm.MethodName)) ∈ zTW := zin4 (List.mem_of_getElem? (i := 198) rfl)
theorem q919 : (Jvm.Cond.selects "SurveyStoreModel" ({ cls := "SurveyStoreModel", name := "blocks", desc := "(I)I" } : Jvm.MethodName) ({ cls := "SurveyStoreModel", name := "blocks", desc := "(I)I" } : Jvm.MethodName)) ∈ zTW := zin4 (List.mem_of_getElem? (i := 199) rfl)
theorem q920 : (Jvm.Cond.code ({ cls := "SurveyStoreModel", name := "blocks", desc := "(I)I" } : Jvm.MethodName) prog_8_method_49_code (6 : Nat) (Option.some Jvm.ClassFile.FieldType.int)) ∈ zTW := zin4 (List.mem_of_getElem? (i := 200) rfl)
theorem q921 : (Jvm.Cond.methodLink "SurveyStoreModel" (181 : Nat) ({ cls := "SurveyStoreModel", name := "isNew", desc := "(I)Z" } : Jvm.MethodName)) ∈ zTW := zin4 (List.mem_of_getElem? (i := 201) rfl)
theorem q922 : (Jvm.Cond.privateMethod ({ cls := "SurveyStoreModel", name := "isNew", desc := "(I)Z" } : Jvm.MethodName)) ∈ zTW := zin4 (List.mem_of_getElem? (i := 202) rfl)
theorem q923 : (Jvm.Cond.instanceMethod ({ cls := "SurveyStoreModel", name := "isNew", desc := "(I)Z" } : Jvm.MethodName)) ∈ zTW := zin4 (List.mem_of_getElem? (i := 203) rfl)
theorem q924 : (Jvm.Cond.code ({ cls := "SurveyStoreModel", name := "isNew", desc := "(I)Z" } : Jvm.MethodName) prog_8_method_48_code (6 : Nat) (Option.some Jvm.ClassFile.FieldType.boolean)) ∈ zTW := zin4 (List.mem_of_getElem? (i := 204) rfl)
theorem q925 : (Jvm.Cond.methodLink "SurveyStoreModel" (178 : Nat) ({ cls := "SurveyStoreModel", name := "sameBlock", desc := "(II)Z" } : Jvm.MethodName)) ∈ zTW := zin4 (List.mem_of_getElem? (i := 205) rfl)
theorem q926 : (Jvm.Cond.privateMethod ({ cls := "SurveyStoreModel", name := "sameBlock", desc := "(II)Z" } : Jvm.MethodName)) ∈ zTW := zin4 (List.mem_of_getElem? (i := 206) rfl)
theorem q927 : (Jvm.Cond.instanceMethod ({ cls := "SurveyStoreModel", name := "sameBlock", desc := "(II)Z" } : Jvm.MethodName)) ∈ zTW := zin4 (List.mem_of_getElem? (i := 207) rfl)
theorem q928 : (Jvm.Cond.code ({ cls := "SurveyStoreModel", name := "sameBlock", desc := "(II)Z" } : Jvm.MethodName) prog_8_method_47_code (5 : Nat) (Option.some Jvm.ClassFile.FieldType.boolean)) ∈ zTW := zin4 (List.mem_of_getElem? (i := 208) rfl)
theorem q929 : (Jvm.Cond.sameMethod "java/lang/Throwable" "java/lang/Throwable" "fillInStackTrace" "(I)Ljava/lang/Throwable;") ∈ zTW := zin4 (List.mem_of_getElem? (i := 209) rfl)
theorem sl0 : Cond.selects (⟨"SurveyStore", "branchAt", "(I)LSurveyStore$Branch;"⟩ : MethodName).cls ⟨"SurveyStore", "branchAt", "(I)LSurveyStore$Branch;"⟩ ⟨"SurveyStore", "branchAt", "(I)LSurveyStore$Branch;"⟩ ∈ zTW := List.mem_append_left _ (List.mem_append_left _ (List.mem_of_getElem? (i := 0) rfl))
theorem sl1 : Cond.selects (⟨"SurveyStore", "cellAt", "(IIII)J"⟩ : MethodName).cls ⟨"SurveyStore", "cellAt", "(IIII)J"⟩ ⟨"SurveyStore", "cellAt", "(IIII)J"⟩ ∈ zTW := List.mem_append_left _ (List.mem_append_left _ (List.mem_of_getElem? (i := 1) rfl))
theorem sl2 : Cond.selects (⟨"SurveyStore", "cellsOf", "(I)[J"⟩ : MethodName).cls ⟨"SurveyStore", "cellsOf", "(I)[J"⟩ ⟨"SurveyStore", "cellsOf", "(I)[J"⟩ ∈ zTW := List.mem_append_left _ (List.mem_append_left _ (List.mem_of_getElem? (i := 2) rfl))
theorem sl3 : Cond.selects (⟨"SurveyStore", "commitAt", "(I)LSurveyStore$Commit;"⟩ : MethodName).cls ⟨"SurveyStore", "commitAt", "(I)LSurveyStore$Commit;"⟩ ⟨"SurveyStore", "commitAt", "(I)LSurveyStore$Commit;"⟩ ∈ zTW := List.mem_append_left _ (List.mem_append_left _ (List.mem_of_getElem? (i := 3) rfl))
theorem sl4 : Cond.selects (⟨"SurveyStore", "branchOfPlace", "(I)LSurveyStore$Branch;"⟩ : MethodName).cls ⟨"SurveyStore", "branchOfPlace", "(I)LSurveyStore$Branch;"⟩ ⟨"SurveyStore", "branchOfPlace", "(I)LSurveyStore$Branch;"⟩ ∈ zTW := List.mem_append_left _ (List.mem_append_left _ (List.mem_of_getElem? (i := 4) rfl))
theorem sl5 : Cond.selects (⟨"SurveyStore", "nearestOf", "(II)I"⟩ : MethodName).cls ⟨"SurveyStore", "nearestOf", "(II)I"⟩ ⟨"SurveyStore", "nearestOf", "(II)I"⟩ ∈ zTW := List.mem_append_left _ (List.mem_append_left _ (List.mem_of_getElem? (i := 5) rfl))
theorem sl6 : Cond.selects (⟨"SurveyStore", "ancestorsOf", "(I)I"⟩ : MethodName).cls ⟨"SurveyStore", "ancestorsOf", "(I)I"⟩ ⟨"SurveyStore", "ancestorsOf", "(I)I"⟩ ∈ zTW := List.mem_append_left _ (List.mem_append_left _ (List.mem_of_getElem? (i := 6) rfl))
theorem sl7 : Cond.selects (⟨"SurveyStore", "aboutCommit", "(LSurveyStore$Commit;II)I"⟩ : MethodName).cls ⟨"SurveyStore", "aboutCommit", "(LSurveyStore$Commit;II)I"⟩ ⟨"SurveyStore", "aboutCommit", "(LSurveyStore$Commit;II)I"⟩ ∈ zTW := List.mem_append_left _ (List.mem_append_left _ (List.mem_of_getElem? (i := 7) rfl))
theorem sl8 : Cond.selects (⟨"SurveyStore", "childrenOf", "(I)I"⟩ : MethodName).cls ⟨"SurveyStore", "childrenOf", "(I)I"⟩ ⟨"SurveyStore", "childrenOf", "(I)I"⟩ ∈ zTW := List.mem_append_left _ (List.mem_append_left _ (List.mem_of_getElem? (i := 8) rfl))
theorem sl9 : Cond.selects (⟨"SurveyStore", "aboutBranch", "(LSurveyStore$Branch;I)I"⟩ : MethodName).cls ⟨"SurveyStore", "aboutBranch", "(LSurveyStore$Branch;I)I"⟩ ⟨"SurveyStore", "aboutBranch", "(LSurveyStore$Branch;I)I"⟩ ∈ zTW := List.mem_append_left _ (List.mem_append_left _ (List.mem_of_getElem? (i := 9) rfl))
theorem sl10 : Cond.selects (⟨"SurveyStore", "isChanged", "(LSurveyStore$Branch;)Z"⟩ : MethodName).cls ⟨"SurveyStore", "isChanged", "(LSurveyStore$Branch;)Z"⟩ ⟨"SurveyStore", "isChanged", "(LSurveyStore$Branch;)Z"⟩ ∈ zTW := List.mem_append_left _ (List.mem_append_left _ (List.mem_of_getElem? (i := 10) rfl))
theorem sl11 : Cond.selects (⟨"java/lang/Throwable", "fillInStackTrace", "(I)Ljava/lang/Throwable;"⟩ : MethodName).cls ⟨"java/lang/Throwable", "fillInStackTrace", "(I)Ljava/lang/Throwable;"⟩ ⟨"java/lang/Throwable", "fillInStackTrace", "(I)Ljava/lang/Throwable;"⟩ ∈ zTW := List.mem_append_left _ (List.mem_append_left _ (List.mem_of_getElem? (i := 11) rfl))
theorem sl12 : Cond.selects (⟨"SurveyStore", "branchToEdit", "(II)LSurveyStore$Branch;"⟩ : MethodName).cls ⟨"SurveyStore", "branchToEdit", "(II)LSurveyStore$Branch;"⟩ ⟨"SurveyStore", "branchToEdit", "(II)LSurveyStore$Branch;"⟩ ∈ zTW := List.mem_append_left _ (List.mem_append_left _ (List.mem_of_getElem? (i := 12) rfl))
theorem sl13 : Cond.selects (⟨"SurveyStore", "isInside", "(III)Z"⟩ : MethodName).cls ⟨"SurveyStore", "isInside", "(III)Z"⟩ ⟨"SurveyStore", "isInside", "(III)Z"⟩ ∈ zTW := List.mem_append_left _ (List.mem_append_left _ (List.mem_of_getElem? (i := 13) rfl))
theorem sl14 : Cond.selects (⟨"SurveyStore", "isRightOf", "(IIII)Z"⟩ : MethodName).cls ⟨"SurveyStore", "isRightOf", "(IIII)Z"⟩ ⟨"SurveyStore", "isRightOf", "(IIII)Z"⟩ ∈ zTW := List.mem_append_left _ (List.mem_append_left _ (List.mem_of_getElem? (i := 14) rfl))
theorem sl15 : Cond.selects (⟨"SurveyStore", "mapped", "(I)I"⟩ : MethodName).cls ⟨"SurveyStore", "mapped", "(I)I"⟩ ⟨"SurveyStore", "mapped", "(I)I"⟩ ∈ zTW := List.mem_append_left _ (List.mem_append_left _ (List.mem_of_getElem? (i := 15) rfl))
theorem sl16 : Cond.selects (⟨"SurveyStore", "baseOf", "(III)LSurveyStore$BaseRow;"⟩ : MethodName).cls ⟨"SurveyStore", "baseOf", "(III)LSurveyStore$BaseRow;"⟩ ⟨"SurveyStore", "baseOf", "(III)LSurveyStore$BaseRow;"⟩ ∈ zTW := List.mem_append_left _ (List.mem_append_left _ (List.mem_of_getElem? (i := 16) rfl))
theorem sl17 : Cond.selects (⟨"SurveyStore", "baseRowAt", "(I)LSurveyStore$BaseRow;"⟩ : MethodName).cls ⟨"SurveyStore", "baseRowAt", "(I)LSurveyStore$BaseRow;"⟩ ⟨"SurveyStore", "baseRowAt", "(I)LSurveyStore$BaseRow;"⟩ ∈ zTW := List.mem_append_left _ (List.mem_append_left _ (List.mem_of_getElem? (i := 17) rfl))
theorem sl18 : Cond.selects (⟨"SurveyStore", "joinBase", "(LSurveyStore$BaseRow;III)V"⟩ : MethodName).cls ⟨"SurveyStore", "joinBase", "(LSurveyStore$BaseRow;III)V"⟩ ⟨"SurveyStore", "joinBase", "(LSurveyStore$BaseRow;III)V"⟩ ∈ zTW := List.mem_append_left _ (List.mem_append_left _ (List.mem_of_getElem? (i := 18) rfl))
theorem sl19 : Cond.selects (⟨"SurveyStore", "mergeCells", "([J[J[ILSurveyStore$Conflicts;)V"⟩ : MethodName).cls ⟨"SurveyStore", "mergeCells", "([J[J[ILSurveyStore$Conflicts;)V"⟩ ⟨"SurveyStore", "mergeCells", "([J[J[ILSurveyStore$Conflicts;)V"⟩ ∈ zTW := List.mem_append_left _ (List.mem_append_left _ (List.mem_of_getElem? (i := 19) rfl))
theorem sl20 : Cond.selects (⟨"SurveyStoreModel", "isCommit", "(I)Z"⟩ : MethodName).cls ⟨"SurveyStoreModel", "isCommit", "(I)Z"⟩ ⟨"SurveyStoreModel", "isCommit", "(I)Z"⟩ ∈ zTW := List.mem_append_left _ (List.mem_append_left _ (List.mem_of_getElem? (i := 20) rfl))
theorem sl21 : Cond.selects (⟨"SurveyStoreModel", "become", "(II)V"⟩ : MethodName).cls ⟨"SurveyStoreModel", "become", "(II)V"⟩ ⟨"SurveyStoreModel", "become", "(II)V"⟩ ∈ zTW := List.mem_append_left _ (List.mem_append_left _ (List.mem_of_getElem? (i := 21) rfl))
theorem sl22 : Cond.selects (⟨"SurveyStoreModel", "isBranch", "(I)Z"⟩ : MethodName).cls ⟨"SurveyStoreModel", "isBranch", "(I)Z"⟩ ⟨"SurveyStoreModel", "isBranch", "(I)Z"⟩ ∈ zTW := List.mem_append_left _ (List.mem_append_left _ (List.mem_of_getElem? (i := 22) rfl))
theorem sl23 : Cond.selects (⟨"SurveyStoreModel", "fails", "(Z)Z"⟩ : MethodName).cls ⟨"SurveyStoreModel", "fails", "(Z)Z"⟩ ⟨"SurveyStoreModel", "fails", "(Z)Z"⟩ ∈ zTW := List.mem_append_left _ (List.mem_append_left _ (List.mem_of_getElem? (i := 23) rfl))
theorem sl24 : Cond.selects (⟨"SurveyStoreModel", "give", "(III)V"⟩ : MethodName).cls ⟨"SurveyStoreModel", "give", "(III)V"⟩ ⟨"SurveyStoreModel", "give", "(III)V"⟩ ∈ zTW := List.mem_append_left _ (List.mem_append_left _ (List.mem_of_getElem? (i := 24) rfl))
theorem sl25 : Cond.selects (⟨"SurveyStoreModel", "meets", "(IIII)Z"⟩ : MethodName).cls ⟨"SurveyStoreModel", "meets", "(IIII)Z"⟩ ⟨"SurveyStoreModel", "meets", "(IIII)Z"⟩ ∈ zTW := List.mem_append_left _ (List.mem_append_left _ (List.mem_of_getElem? (i := 25) rfl))
theorem sl26 : Cond.selects (⟨"SurveyStoreModel", "isChanged", "(I)Z"⟩ : MethodName).cls ⟨"SurveyStoreModel", "isChanged", "(I)Z"⟩ ⟨"SurveyStoreModel", "isChanged", "(I)Z"⟩ ∈ zTW := List.mem_append_left _ (List.mem_append_left _ (List.mem_of_getElem? (i := 26) rfl))
theorem sl27 : Cond.selects (⟨"SurveyStoreModel", "unsettled", "(I)I"⟩ : MethodName).cls ⟨"SurveyStoreModel", "unsettled", "(I)I"⟩ ⟨"SurveyStoreModel", "unsettled", "(I)I"⟩ ∈ zTW := List.mem_append_left _ (List.mem_append_left _ (List.mem_of_getElem? (i := 27) rfl))
theorem sl28 : Cond.selects (⟨"SurveyStoreModel", "ancestors", "(I)I"⟩ : MethodName).cls ⟨"SurveyStoreModel", "ancestors", "(I)I"⟩ ⟨"SurveyStoreModel", "ancestors", "(I)I"⟩ ∈ zTW := List.mem_append_left _ (List.mem_append_left _ (List.mem_of_getElem? (i := 28) rfl))
theorem sl29 : Cond.selects (⟨"SurveyStoreModel", "base", "(II)V"⟩ : MethodName).cls ⟨"SurveyStoreModel", "base", "(II)V"⟩ ⟨"SurveyStoreModel", "base", "(II)V"⟩ ∈ zTW := List.mem_append_left _ (List.mem_append_left _ (List.mem_of_getElem? (i := 29) rfl))
theorem sl30 : Cond.selects (⟨"SurveyStoreModel", "beginBase", "(III)V"⟩ : MethodName).cls ⟨"SurveyStoreModel", "beginBase", "(III)V"⟩ ⟨"SurveyStoreModel", "beginBase", "(III)V"⟩ ∈ zTW := List.mem_append_left _ (List.mem_append_left _ (List.mem_of_getElem? (i := 30) rfl))
theorem sl31 : Cond.selects (⟨"SurveyStoreModel", "nearestOf", "(II)I"⟩ : MethodName).cls ⟨"SurveyStoreModel", "nearestOf", "(II)I"⟩ ⟨"SurveyStoreModel", "nearestOf", "(II)I"⟩ ∈ zTW := List.mem_append_left _ (List.mem_append_left _ (List.mem_of_getElem? (i := 31) rfl))
theorem sl32 : Cond.selects (⟨"SurveyStoreModel", "joinBase", "(II)V"⟩ : MethodName).cls ⟨"SurveyStoreModel", "joinBase", "(II)V"⟩ ⟨"SurveyStoreModel", "joinBase", "(II)V"⟩ ∈ zTW := List.mem_append_left _ (List.mem_append_left _ (List.mem_of_getElem? (i := 32) rfl))
theorem sl33 : Cond.selects (⟨"SurveyStoreModel", "madeIn", "(I)I"⟩ : MethodName).cls ⟨"SurveyStoreModel", "madeIn", "(I)I"⟩ ⟨"SurveyStoreModel", "madeIn", "(I)I"⟩ ∈ zTW := List.mem_append_left _ (List.mem_append_left _ (List.mem_of_getElem? (i := 33) rfl))
theorem sl34 : Cond.selects (⟨"SurveyStoreModel", "note", "(IIIII)V"⟩ : MethodName).cls ⟨"SurveyStoreModel", "note", "(IIIII)V"⟩ ⟨"SurveyStoreModel", "note", "(IIIII)V"⟩ ∈ zTW := List.mem_append_left _ (List.mem_append_left _ (List.mem_of_getElem? (i := 34) rfl))
theorem sl35 : Cond.selects (⟨"SurveyStoreModel", "isConflict", "(II)Z"⟩ : MethodName).cls ⟨"SurveyStoreModel", "isConflict", "(II)Z"⟩ ⟨"SurveyStoreModel", "isConflict", "(II)Z"⟩ ∈ zTW := List.mem_append_left _ (List.mem_append_left _ (List.mem_of_getElem? (i := 35) rfl))
theorem sl36 : Cond.selects (⟨"SurveyStoreModel", "isCell", "(IIII)Z"⟩ : MethodName).cls ⟨"SurveyStoreModel", "isCell", "(IIII)Z"⟩ ⟨"SurveyStoreModel", "isCell", "(IIII)Z"⟩ ∈ zTW := List.mem_append_left _ (List.mem_append_left _ (List.mem_of_getElem? (i := 36) rfl))
theorem sl37 : Cond.selects (⟨"SurveyStoreModel", "isPlace", "(I)Z"⟩ : MethodName).cls ⟨"SurveyStoreModel", "isPlace", "(I)Z"⟩ ⟨"SurveyStoreModel", "isPlace", "(I)Z"⟩ ∈ zTW := List.mem_append_left _ (List.mem_append_left _ (List.mem_of_getElem? (i := 37) rfl))
theorem sl38 : Cond.selects (⟨"SurveyStoreModel", "isNew", "(I)Z"⟩ : MethodName).cls ⟨"SurveyStoreModel", "isNew", "(I)Z"⟩ ⟨"SurveyStoreModel", "isNew", "(I)Z"⟩ ∈ zTW := List.mem_append_left _ (List.mem_append_left _ (List.mem_of_getElem? (i := 38) rfl))
theorem sl39 : Cond.selects (⟨"SurveyStoreModel", "sameBlock", "(II)Z"⟩ : MethodName).cls ⟨"SurveyStoreModel", "sameBlock", "(II)Z"⟩ ⟨"SurveyStoreModel", "sameBlock", "(II)Z"⟩ ∈ zTW := List.mem_append_left _ (List.mem_append_left _ (List.mem_of_getElem? (i := 39) rfl))
end
section
def zF_S : u_T := fun k => match k with
  | 0 => ("SurveyStore", "kinds", "[I", true)
  | 1 => ("SurveyStore", "commits", "[LSurveyStore$Commit;", true)
  | 2 => ("SurveyStore", "made", "I", false)
  | 3 => ("SurveyStore", "branches", "[LSurveyStore$Branch;", true)
  | 4 => ("SurveyStore", "regionX", "I", false)
  | 5 => ("SurveyStore", "regionY", "I", false)
  | 6 => ("SurveyStore", "regionWidth", "I", false)
  | 7 => ("SurveyStore", "regionHeight", "I", false)
  | 8 => ("SurveyStore", "cornerX", "[I", true)
  | 9 => ("SurveyStore", "cornerY", "[I", true)
  | 10 => ("SurveyStore", "entryFrom", "[I", true)
  | 11 => ("SurveyStore", "entryTo", "[I", true)
  | 12 => ("SurveyStore", "baseRows", "[LSurveyStore$BaseRow;", true)
  | _ => ("SurveyStore", "blockTable", "LSurveyStore$BlockTable;", false)
def zt_S : Nat → FieldType := fun k => match k with
  | 0 => (.array .int)
  | 1 => (.array (.object "SurveyStore$Commit"))
  | 2 => .int
  | 3 => (.array (.object "SurveyStore$Branch"))
  | 4 => .int
  | 5 => .int
  | 6 => .int
  | 7 => .int
  | 8 => (.array .int)
  | 9 => (.array .int)
  | 10 => (.array .int)
  | 11 => (.array .int)
  | 12 => (.array (.object "SurveyStore$BaseRow"))
  | _ => (.object "SurveyStore$BlockTable")
def zF_C : u_T := fun k => match k with
  | 0 => ("SurveyStore$Commit", "firstParent", "I", true)
  | 1 => ("SurveyStore$Commit", "secondParent", "I", true)
  | 2 => ("SurveyStore$Commit", "ancestors", "I", true)
  | _ => ("SurveyStore$Commit", "cells", "[J", true)
def zt_C : Nat → FieldType := fun k => match k with
  | 0 => .int
  | 1 => .int
  | 2 => .int
  | _ => (.array .long)
def zF_B : u_T := fun k => match k with
  | 0 => ("SurveyStore$Branch", "cells", "[J", true)
  | 1 => ("SurveyStore$Branch", "there", "Z", false)
  | 2 => ("SurveyStore$Branch", "head", "I", false)
  | 3 => ("SurveyStore$Branch", "merging", "I", false)
  | _ => ("SurveyStore$Branch", "conflicts", "LSurveyStore$Conflicts;", false)
def zt_B : Nat → FieldType := fun k => match k with
  | 0 => (.array .long)
  | 1 => .boolean
  | 2 => .int
  | 3 => .int
  | _ => (.object "SurveyStore$Conflicts")
def zF_K : u_T := fun k => match k with
  | 0 => ("SurveyStore$Conflicts", "indices", "[I", true)
  | 1 => ("SurveyStore$Conflicts", "mine", "[I", true)
  | 2 => ("SurveyStore$Conflicts", "others", "[I", true)
  | 3 => ("SurveyStore$Conflicts", "bases", "[I", true)
  | 4 => ("SurveyStore$Conflicts", "settled", "[Z", true)
  | 5 => ("SurveyStore$Conflicts", "count", "I", false)
  | _ => ("SurveyStore$Conflicts", "unsettled", "I", false)
def zt_K : Nat → FieldType := fun k => match k with
  | 0 => (.array .int)
  | 1 => (.array .int)
  | 2 => (.array .int)
  | 3 => (.array .int)
  | 4 => (.array .boolean)
  | 5 => .int
  | _ => .int
def zF_R : u_T := fun k => match k with
  | _ => ("SurveyStore$BaseRow", "values", "[I", true)
def zt_R : Nat → FieldType := fun k => match k with
  | _ => (.array .int)
def zF_T : u_T := fun k => match k with
  | 0 => ("SurveyStore$BlockTable", "values", "[I", true)
  | 1 => ("SurveyStore$BlockTable", "slots", "[I", true)
  | _ => ("SurveyStore$BlockTable", "count", "I", false)
def zt_T : Nat → FieldType := fun k => match k with
  | 0 => (.array .int)
  | 1 => (.array .int)
  | _ => .int
def zF_M : u_T := fun k => match k with
  | 0 => ("SurveyStoreModel", "code", "I", false)
  | 1 => ("SurveyStoreModel", "value", "[I", true)
  | 2 => ("SurveyStoreModel", "origin", "[I", true)
  | 3 => ("SurveyStoreModel", "kinds", "[I", true)
  | 4 => ("SurveyStoreModel", "parent", "[I", true)
  | 5 => ("SurveyStoreModel", "other", "[I", true)
  | 6 => ("SurveyStoreModel", "commits", "I", false)
  | 7 => ("SurveyStoreModel", "there", "[Z", true)
  | 8 => ("SurveyStoreModel", "head", "[I", true)
  | 9 => ("SurveyStoreModel", "merging", "[I", true)
  | 10 => ("SurveyStoreModel", "conflictAt", "[I", true)
  | 11 => ("SurveyStoreModel", "conflictMine", "[I", true)
  | 12 => ("SurveyStoreModel", "conflictOther", "[I", true)
  | 13 => ("SurveyStoreModel", "conflictBase", "[I", true)
  | 14 => ("SurveyStoreModel", "conflicts", "[I", true)
  | 15 => ("SurveyStoreModel", "settled", "[Z", true)
  | 16 => ("SurveyStoreModel", "left", "I", false)
  | 17 => ("SurveyStoreModel", "top", "I", false)
  | 18 => ("SurveyStoreModel", "wide", "I", false)
  | 19 => ("SurveyStoreModel", "high", "I", false)
  | 20 => ("SurveyStoreModel", "cornerX", "[I", true)
  | 21 => ("SurveyStoreModel", "cornerY", "[I", true)
  | 22 => ("SurveyStoreModel", "from", "[I", true)
  | 23 => ("SurveyStoreModel", "to", "[I", true)
  | 24 => ("SurveyStoreModel", "wanted", "[I", true)
  | 25 => ("SurveyStoreModel", "done", "[I", true)
  | 26 => ("SurveyStoreModel", "rows", "[I", true)
  | _ => ("SurveyStoreModel", "foundAt", "[I", true)
def zt_M : Nat → FieldType := fun k => match k with
  | 0 => .int
  | 1 => (.array .int)
  | 2 => (.array .int)
  | 3 => (.array .int)
  | 4 => (.array .int)
  | 5 => (.array .int)
  | 6 => .int
  | 7 => (.array .boolean)
  | 8 => (.array .int)
  | 9 => (.array .int)
  | 10 => (.array .int)
  | 11 => (.array .int)
  | 12 => (.array .int)
  | 13 => (.array .int)
  | 14 => (.array .int)
  | 15 => (.array .boolean)
  | 16 => .int
  | 17 => .int
  | 18 => .int
  | 19 => .int
  | 20 => (.array .int)
  | 21 => (.array .int)
  | 22 => (.array .int)
  | 23 => (.array .int)
  | 24 => (.array .int)
  | 25 => (.array .int)
  | 26 => (.array .int)
  | _ => (.array .int)
def zcl : List vw_C := [("SurveyStore", zF_S, 14), ("SurveyStore$Commit", zF_C, 4), ("SurveyStore$Branch", zF_B, 5), ("SurveyStore$Conflicts", zF_K, 7), ("SurveyStore$BaseRow", zF_R, 1), ("SurveyStore$BlockTable", zF_T, 3), ("SurveyStoreModel", zF_M, 28)]
def zty (tc : Nat → ClassId) : List (ClassId × FieldType) := [(tc 0, .int), (tc 1, .boolean), (tc 2, .long), (tc 3, .object "SurveyStore$Commit"), (tc 4, .object "SurveyStore$Branch"), (tc 5, .object "SurveyStore$BaseRow")]
abbrev b_S_init : ByteArray := prog_1_method_1_code
def y_S_init : MethodName := ⟨"SurveyStore", "<init>", "()V"⟩
abbrev b_A_fillJ : ByteArray := prog_17_method_101_code
def y_A_fillJ : MethodName := ⟨"java/util/Arrays", "fill", "([JJ)V"⟩
abbrev b_C_init : ByteArray := prog_5_method_1_code
def y_C_init : MethodName := ⟨"SurveyStore$Commit", "<init>", "(III[J)V"⟩
abbrev b_B_init : ByteArray := prog_4_method_1_code
def y_B_init : MethodName := ⟨"SurveyStore$Branch", "<init>", "()V"⟩
abbrev b_B_startAt : ByteArray := prog_4_method_2_code
def y_B_startAt : MethodName := ⟨"SurveyStore$Branch", "startAt", "(I[J)V"⟩
abbrev b_B_restAt : ByteArray := prog_4_method_3_code
def y_B_restAt : MethodName := ⟨"SurveyStore$Branch", "restAt", "(I)V"⟩
abbrev b_K_forget : ByteArray := prog_6_method_2_code
def y_K_forget : MethodName := ⟨"SurveyStore$Conflicts", "forget", "()V"⟩
abbrev b_A_fillI : ByteArray := prog_17_method_103_code
def y_A_fillI : MethodName := ⟨"java/util/Arrays", "fill", "([II)V"⟩
abbrev b_S_kind : ByteArray := prog_1_method_2_code
def y_S_kind : MethodName := ⟨"SurveyStore", "kind", "(II)Z"⟩
abbrev b_S_isLayer : ByteArray := prog_1_method_25_code
def y_S_isLayer : MethodName := ⟨"SurveyStore", "isLayer", "(I)Z"⟩
abbrev b_S_drop : ByteArray := prog_1_method_4_code
def y_S_drop : MethodName := ⟨"SurveyStore", "drop", "(I)Z"⟩
abbrev b_S_branchAt : ByteArray := prog_1_method_42_code
def y_S_branchAt : MethodName := ⟨"SurveyStore", "branchAt", "(I)LSurveyStore$Branch;"⟩
abbrev b_S_region : ByteArray := prog_1_method_5_code
def y_S_region : MethodName := ⟨"SurveyStore", "region", "(IIII)Z"⟩
abbrev b_S_fits : ByteArray := prog_1_method_29_code
def y_S_fits : MethodName := ⟨"SurveyStore", "fits", "(II)Z"⟩
abbrev b_S_corner : ByteArray := prog_1_method_7_code
def y_S_corner : MethodName := ⟨"SurveyStore", "corner", "(III)Z"⟩
abbrev b_S_isPoint : ByteArray := prog_1_method_27_code
def y_S_isPoint : MethodName := ⟨"SurveyStore", "isPoint", "(I)Z"⟩
abbrev b_S_entry : ByteArray := prog_1_method_10_code
def y_S_entry : MethodName := ⟨"SurveyStore", "entry", "(III)Z"⟩
abbrev b_S_isValue : ByteArray := prog_1_method_28_code
def y_S_isValue : MethodName := ⟨"SurveyStore", "isValue", "(I)Z"⟩
abbrev b_S_conflict : ByteArray := prog_1_method_15_code
def y_S_conflict : MethodName := ⟨"SurveyStore", "conflict", "(III)I"⟩
abbrev b_K_tell : ByteArray := prog_6_method_6_code
def y_K_tell : MethodName := ⟨"SurveyStore$Conflicts", "tell", "(II)I"⟩
abbrev b_K_has : ByteArray := prog_6_method_4_code
def y_K_has : MethodName := ⟨"SurveyStore$Conflicts", "has", "(I)Z"⟩
abbrev b_S_layerOf : ByteArray := prog_1_method_32_code
def y_S_layerOf : MethodName := ⟨"SurveyStore", "layerOf", "(I)I"⟩
abbrev b_S_xOf : ByteArray := prog_1_method_34_code
def y_S_xOf : MethodName := ⟨"SurveyStore", "xOf", "(I)I"⟩
abbrev b_S_yOf : ByteArray := prog_1_method_33_code
def y_S_yOf : MethodName := ⟨"SurveyStore", "yOf", "(I)I"⟩
abbrev b_S_value : ByteArray := prog_1_method_17_code
def y_S_value : MethodName := ⟨"SurveyStore", "value", "(IIII)I"⟩
abbrev b_S_cellAt : ByteArray := prog_1_method_45_code
def y_S_cellAt : MethodName := ⟨"SurveyStore", "cellAt", "(IIII)J"⟩
abbrev b_S_cellsOf : ByteArray := prog_1_method_44_code
def y_S_cellsOf : MethodName := ⟨"SurveyStore", "cellsOf", "(I)[J"⟩
abbrev b_S_commitAt : ByteArray := prog_1_method_41_code
def y_S_commitAt : MethodName := ⟨"SurveyStore", "commitAt", "(I)LSurveyStore$Commit;"⟩
abbrev b_S_branchOfPlace : ByteArray := prog_1_method_43_code
def y_S_branchOfPlace : MethodName := ⟨"SurveyStore", "branchOfPlace", "(I)LSurveyStore$Branch;"⟩
abbrev b_S_isCoordinate : ByteArray := prog_1_method_26_code
def y_S_isCoordinate : MethodName := ⟨"SurveyStore", "isCoordinate", "(I)Z"⟩
abbrev b_S_indexOf : ByteArray := prog_1_method_31_code
def y_S_indexOf : MethodName := ⟨"SurveyStore", "indexOf", "(III)I"⟩
abbrev b_S_valueOf : ByteArray := prog_1_method_36_code
def y_S_valueOf : MethodName := ⟨"SurveyStore", "valueOf", "(J)I"⟩
abbrev b_S_origin : ByteArray := prog_1_method_18_code
def y_S_origin : MethodName := ⟨"SurveyStore", "origin", "(IIIII)I"⟩
abbrev b_S_originCommitOf : ByteArray := prog_1_method_39_code
def y_S_originCommitOf : MethodName := ⟨"SurveyStore", "originCommitOf", "(J)I"⟩
abbrev b_S_originIndexOf : ByteArray := prog_1_method_38_code
def y_S_originIndexOf : MethodName := ⟨"SurveyStore", "originIndexOf", "(J)I"⟩
abbrev b_S_differing : ByteArray := prog_1_method_20_code
def y_S_differing : MethodName := ⟨"SurveyStore", "differing", "(III)I"⟩
abbrev b_S_differs : ByteArray := prog_1_method_21_code
def y_S_differs : MethodName := ⟨"SurveyStore", "differs", "(IIII)I"⟩
abbrev b_S_nearest : ByteArray := prog_1_method_22_code
def y_S_nearest : MethodName := ⟨"SurveyStore", "nearest", "(III)I"⟩
abbrev b_S_nearestOf : ByteArray := prog_1_method_56_code
def y_S_nearestOf : MethodName := ⟨"SurveyStore", "nearestOf", "(II)I"⟩
abbrev b_S_contains : ByteArray := prog_1_method_30_code
def y_S_contains : MethodName := ⟨"SurveyStore", "contains", "(II)Z"⟩
abbrev b_S_ancestorsOf : ByteArray := prog_1_method_55_code
def y_S_ancestorsOf : MethodName := ⟨"SurveyStore", "ancestorsOf", "(I)I"⟩
abbrev b_S_about : ByteArray := prog_1_method_23_code
def y_S_about : MethodName := ⟨"SurveyStore", "about", "(II)I"⟩
abbrev b_S_aboutCommit : ByteArray := prog_1_method_62_code
def y_S_aboutCommit : MethodName := ⟨"SurveyStore", "aboutCommit", "(LSurveyStore$Commit;II)I"⟩
abbrev b_S_childrenOf : ByteArray := prog_1_method_63_code
def y_S_childrenOf : MethodName := ⟨"SurveyStore", "childrenOf", "(I)I"⟩
abbrev b_C_hasParent : ByteArray := prog_5_method_2_code
def y_C_hasParent : MethodName := ⟨"SurveyStore$Commit", "hasParent", "(I)Z"⟩
abbrev b_S_aboutBranch : ByteArray := prog_1_method_64_code
def y_S_aboutBranch : MethodName := ⟨"SurveyStore", "aboutBranch", "(LSurveyStore$Branch;I)I"⟩
abbrev b_S_isChanged : ByteArray := prog_1_method_53_code
def y_S_isChanged : MethodName := ⟨"SurveyStore", "isChanged", "(LSurveyStore$Branch;)Z"⟩
abbrev b_S_blocks : ByteArray := prog_1_method_24_code
def y_S_blocks : MethodName := ⟨"SurveyStore", "blocks", "(I)I"⟩
abbrev b_T_init : ByteArray := prog_3_method_1_code
def y_T_init : MethodName := ⟨"SurveyStore$BlockTable", "<init>", "()V"⟩
abbrev b_T_forget : ByteArray := prog_3_method_2_code
def y_T_forget : MethodName := ⟨"SurveyStore$BlockTable", "forget", "()V"⟩
abbrev b_T_addAll : ByteArray := prog_3_method_3_code
def y_T_addAll : MethodName := ⟨"SurveyStore$BlockTable", "addAll", "([JI)V"⟩
abbrev b_T_read : ByteArray := prog_3_method_4_code
def y_T_read : MethodName := ⟨"SurveyStore$BlockTable", "read", "([JI)Z"⟩
abbrev b_T_keepIfNew : ByteArray := prog_3_method_5_code
def y_T_keepIfNew : MethodName := ⟨"SurveyStore$BlockTable", "keepIfNew", "()V"⟩
abbrev b_T_hash : ByteArray := prog_3_method_6_code
def y_T_hash : MethodName := ⟨"SurveyStore$BlockTable", "hash", "(I)I"⟩
abbrev b_T_isSame : ByteArray := prog_3_method_7_code
def y_T_isSame : MethodName := ⟨"SurveyStore$BlockTable", "isSame", "(II)Z"⟩
abbrev b_L_branch : ByteArray := method_3_code
def y_L_branch : MethodName := ⟨"SurveyStoreLaw", "branch", "(LSurveyStore;II)I"⟩
abbrev b_S_branch : ByteArray := prog_1_method_3_code
def y_S_branch : MethodName := ⟨"SurveyStore", "branch", "(II)V"⟩
abbrev b_L_paint : ByteArray := method_4_code
def y_L_paint : MethodName := ⟨"SurveyStoreLaw", "paint", "(LSurveyStore;III)I"⟩
abbrev b_S_paint : ByteArray := prog_1_method_6_code
def y_S_paint : MethodName := ⟨"SurveyStore", "paint", "(III)V"⟩
abbrev b_S_branchToEdit : ByteArray := prog_1_method_46_code
def y_S_branchToEdit : MethodName := ⟨"SurveyStore", "branchToEdit", "(II)LSurveyStore$Branch;"⟩
abbrev b_S_refuseUnlessValue : ByteArray := prog_1_method_47_code
def y_S_refuseUnlessValue : MethodName := ⟨"SurveyStore", "refuseUnlessValue", "(I)V"⟩
abbrev b_B_set : ByteArray := prog_4_method_6_code
def y_B_set : MethodName := ⟨"SurveyStore$Branch", "set", "(II)V"⟩
abbrev b_S_originOf : ByteArray := prog_1_method_37_code
def y_S_originOf : MethodName := ⟨"SurveyStore", "originOf", "(II)I"⟩
abbrev b_S_cellOf : ByteArray := prog_1_method_35_code
def y_S_cellOf : MethodName := ⟨"SurveyStore", "cellOf", "(II)J"⟩
abbrev b_L_polygon : ByteArray := method_5_code
def y_L_polygon : MethodName := ⟨"SurveyStoreLaw", "polygon", "(LSurveyStore;IIII)I"⟩
abbrev b_S_polygon : ByteArray := prog_1_method_8_code
def y_S_polygon : MethodName := ⟨"SurveyStore", "polygon", "(IIII)V"⟩
abbrev b_S_isInside : ByteArray := prog_1_method_49_code
def y_S_isInside : MethodName := ⟨"SurveyStore", "isInside", "(III)Z"⟩
abbrev b_S_isRightOf : ByteArray := prog_1_method_50_code
def y_S_isRightOf : MethodName := ⟨"SurveyStore", "isRightOf", "(IIII)Z"⟩
abbrev b_L_copy : ByteArray := method_6_code
def y_L_copy : MethodName := ⟨"SurveyStoreLaw", "copy", "(LSurveyStore;IIIIII)I"⟩
abbrev b_S_copy : ByteArray := prog_1_method_9_code
def y_S_copy : MethodName := ⟨"SurveyStore", "copy", "(IIIIII)V"⟩
abbrev b_L_map : ByteArray := method_7_code
def y_L_map : MethodName := ⟨"SurveyStoreLaw", "map", "(LSurveyStore;II)I"⟩
abbrev b_S_map : ByteArray := prog_1_method_11_code
def y_S_map : MethodName := ⟨"SurveyStore", "map", "(II)V"⟩
abbrev b_S_mapped : ByteArray := prog_1_method_51_code
def y_S_mapped : MethodName := ⟨"SurveyStore", "mapped", "(I)I"⟩
abbrev b_S_setIfOther : ByteArray := prog_1_method_48_code
def y_S_setIfOther : MethodName := ⟨"SurveyStore", "setIfOther", "(LSurveyStore$Branch;II)V"⟩
abbrev b_L_combine : ByteArray := method_8_code
def y_L_combine : MethodName := ⟨"SurveyStoreLaw", "combine", "(LSurveyStore;IIII)I"⟩
abbrev b_S_combine : ByteArray := prog_1_method_12_code
def y_S_combine : MethodName := ⟨"SurveyStore", "combine", "(IIII)V"⟩
abbrev b_S_combined : ByteArray := prog_1_method_52_code
def y_S_combined : MethodName := ⟨"SurveyStore", "combined", "(III)I"⟩
abbrev b_L_commit : ByteArray := method_9_code
def y_L_commit : MethodName := ⟨"SurveyStoreLaw", "commit", "(LSurveyStore;I[J)I"⟩
abbrev b_S_commit : ByteArray := prog_1_method_13_code
def y_S_commit : MethodName := ⟨"SurveyStore", "commit", "(I)I"⟩
abbrev b_B_hasUnsettled : ByteArray := prog_4_method_5_code
def y_B_hasUnsettled : MethodName := ⟨"SurveyStore$Branch", "hasUnsettled", "()Z"⟩
abbrev b_S_claimPending : ByteArray := prog_1_method_54_code
def y_S_claimPending : MethodName := ⟨"SurveyStore", "claimPending", "([JI)V"⟩
abbrev b_L_merge : ByteArray := method_10_code
def y_L_merge : MethodName := ⟨"SurveyStoreLaw", "merge", "(LSurveyStore;II[J)I"⟩
abbrev b_S_merge : ByteArray := prog_1_method_14_code
def y_S_merge : MethodName := ⟨"SurveyStore", "merge", "(II)I"⟩
abbrev b_S_baseOf : ByteArray := prog_1_method_57_code
def y_S_baseOf : MethodName := ⟨"SurveyStore", "baseOf", "(III)LSurveyStore$BaseRow;"⟩
abbrev b_S_baseRowAt : ByteArray := prog_1_method_59_code
def y_S_baseRowAt : MethodName := ⟨"SurveyStore", "baseRowAt", "(I)LSurveyStore$BaseRow;"⟩
abbrev b_R_init : ByteArray := prog_2_method_1_code
def y_R_init : MethodName := ⟨"SurveyStore$BaseRow", "<init>", "()V"⟩
abbrev b_S_joinBase : ByteArray := prog_1_method_58_code
def y_S_joinBase : MethodName := ⟨"SurveyStore", "joinBase", "(LSurveyStore$BaseRow;III)V"⟩
abbrev b_R_take : ByteArray := prog_2_method_2_code
def y_R_take : MethodName := ⟨"SurveyStore$BaseRow", "take", "([J)V"⟩
abbrev b_R_mergeWith : ByteArray := prog_2_method_3_code
def y_R_mergeWith : MethodName := ⟨"SurveyStore$BaseRow", "mergeWith", "([J[I)V"⟩
abbrev b_S_isConflict : ByteArray := prog_1_method_40_code
def y_S_isConflict : MethodName := ⟨"SurveyStore", "isConflict", "(III)Z"⟩
abbrev b_B_freshConflicts : ByteArray := prog_4_method_4_code
def y_B_freshConflicts : MethodName := ⟨"SurveyStore$Branch", "freshConflicts", "()LSurveyStore$Conflicts;"⟩
abbrev b_K_init : ByteArray := prog_6_method_1_code
def y_K_init : MethodName := ⟨"SurveyStore$Conflicts", "<init>", "()V"⟩
abbrev b_S_mergeCells : ByteArray := prog_1_method_60_code
def y_S_mergeCells : MethodName := ⟨"SurveyStore", "mergeCells", "([J[J[ILSurveyStore$Conflicts;)V"⟩
abbrev b_K_add : ByteArray := prog_6_method_3_code
def y_K_add : MethodName := ⟨"SurveyStore$Conflicts", "add", "(IIII)V"⟩
abbrev b_S_otherWins : ByteArray := prog_1_method_61_code
def y_S_otherWins : MethodName := ⟨"SurveyStore", "otherWins", "(IJJ)Z"⟩
abbrev b_L_settle : ByteArray := method_11_code
def y_L_settle : MethodName := ⟨"SurveyStoreLaw", "settle", "(LSurveyStore;III[J)I"⟩
abbrev b_S_settle : ByteArray := prog_1_method_16_code
def y_S_settle : MethodName := ⟨"SurveyStore", "settle", "(III)I"⟩
abbrev b_K_markSettled : ByteArray := prog_6_method_5_code
def y_K_markSettled : MethodName := ⟨"SurveyStore$Conflicts", "markSettled", "(I)V"⟩
abbrev b_L_total : ByteArray := method_12_code
def y_L_total : MethodName := ⟨"SurveyStoreLaw", "total", "(LSurveyStore;III[J)I"⟩
abbrev b_S_total : ByteArray := prog_1_method_19_code
def y_S_total : MethodName := ⟨"SurveyStore", "total", "(III)I"⟩
abbrev b_M_init : ByteArray := prog_8_method_1_code
def y_M_init : MethodName := ⟨"SurveyStoreModel", "<init>", "()V"⟩
abbrev b_M_thrown : ByteArray := prog_8_method_2_code
def y_M_thrown : MethodName := ⟨"SurveyStoreModel", "thrown", "()I"⟩
abbrev b_M_kind : ByteArray := prog_8_method_10_code
def y_M_kind : MethodName := ⟨"SurveyStoreModel", "kind", "(II)Z"⟩
abbrev b_M_isLayer : ByteArray := prog_8_method_4_code
def y_M_isLayer : MethodName := ⟨"SurveyStoreModel", "isLayer", "(I)Z"⟩
abbrev b_M_branch : ByteArray := prog_8_method_12_code
def y_M_branch : MethodName := ⟨"SurveyStoreModel", "branch", "(II)V"⟩
abbrev b_M_isCommit : ByteArray := prog_8_method_6_code
def y_M_isCommit : MethodName := ⟨"SurveyStoreModel", "isCommit", "(I)Z"⟩
abbrev b_M_become : ByteArray := prog_8_method_11_code
def y_M_become : MethodName := ⟨"SurveyStoreModel", "become", "(II)V"⟩
abbrev b_M_drop : ByteArray := prog_8_method_13_code
def y_M_drop : MethodName := ⟨"SurveyStoreModel", "drop", "(I)Z"⟩
abbrev b_M_isBranch : ByteArray := prog_8_method_5_code
def y_M_isBranch : MethodName := ⟨"SurveyStoreModel", "isBranch", "(I)Z"⟩
abbrev b_M_region : ByteArray := prog_8_method_14_code
def y_M_region : MethodName := ⟨"SurveyStoreModel", "region", "(IIII)Z"⟩
abbrev b_M_paint : ByteArray := prog_8_method_16_code
def y_M_paint : MethodName := ⟨"SurveyStoreModel", "paint", "(III)V"⟩
abbrev b_M_isValue : ByteArray := prog_8_method_8_code
def y_M_isValue : MethodName := ⟨"SurveyStoreModel", "isValue", "(I)Z"⟩
abbrev b_M_fails : ByteArray := prog_8_method_3_code
def y_M_fails : MethodName := ⟨"SurveyStoreModel", "fails", "(Z)Z"⟩
abbrev b_M_cellOf : ByteArray := prog_8_method_9_code
def y_M_cellOf : MethodName := ⟨"SurveyStoreModel", "cellOf", "(III)I"⟩
abbrev b_M_give : ByteArray := prog_8_method_15_code
def y_M_give : MethodName := ⟨"SurveyStoreModel", "give", "(III)V"⟩
abbrev b_M_corner : ByteArray := prog_8_method_17_code
def y_M_corner : MethodName := ⟨"SurveyStoreModel", "corner", "(III)Z"⟩
abbrev b_M_polygon : ByteArray := prog_8_method_18_code
def y_M_polygon : MethodName := ⟨"SurveyStoreModel", "polygon", "(IIII)V"⟩
abbrev b_M_meets : ByteArray := prog_8_method_19_code
def y_M_meets : MethodName := ⟨"SurveyStoreModel", "meets", "(IIII)Z"⟩
abbrev b_M_copy : ByteArray := prog_8_method_20_code
def y_M_copy : MethodName := ⟨"SurveyStoreModel", "copy", "(IIIIII)V"⟩
abbrev b_M_entry : ByteArray := prog_8_method_21_code
def y_M_entry : MethodName := ⟨"SurveyStoreModel", "entry", "(III)Z"⟩
abbrev b_M_map : ByteArray := prog_8_method_22_code
def y_M_map : MethodName := ⟨"SurveyStoreModel", "map", "(II)V"⟩
abbrev b_M_combine : ByteArray := prog_8_method_23_code
def y_M_combine : MethodName := ⟨"SurveyStoreModel", "combine", "(IIII)V"⟩
abbrev b_M_commit : ByteArray := prog_8_method_26_code
def y_M_commit : MethodName := ⟨"SurveyStoreModel", "commit", "(I)I"⟩
abbrev b_M_isChanged : ByteArray := prog_8_method_24_code
def y_M_isChanged : MethodName := ⟨"SurveyStoreModel", "isChanged", "(I)Z"⟩
abbrev b_M_unsettled : ByteArray := prog_8_method_25_code
def y_M_unsettled : MethodName := ⟨"SurveyStoreModel", "unsettled", "(I)I"⟩
abbrev b_M_merge : ByteArray := prog_8_method_34_code
def y_M_merge : MethodName := ⟨"SurveyStoreModel", "merge", "(II)I"⟩
abbrev b_M_ancestors : ByteArray := prog_8_method_27_code
def y_M_ancestors : MethodName := ⟨"SurveyStoreModel", "ancestors", "(I)I"⟩
abbrev b_M_base : ByteArray := prog_8_method_32_code
def y_M_base : MethodName := ⟨"SurveyStoreModel", "base", "(II)V"⟩
abbrev b_M_beginBase : ByteArray := prog_8_method_29_code
def y_M_beginBase : MethodName := ⟨"SurveyStoreModel", "beginBase", "(III)V"⟩
abbrev b_M_nearestOf : ByteArray := prog_8_method_28_code
def y_M_nearestOf : MethodName := ⟨"SurveyStoreModel", "nearestOf", "(II)I"⟩
abbrev b_M_next : ByteArray := prog_8_method_30_code
def y_M_next : MethodName := ⟨"SurveyStoreModel", "next", "(II)I"⟩
abbrev b_M_joinBase : ByteArray := prog_8_method_31_code
def y_M_joinBase : MethodName := ⟨"SurveyStoreModel", "joinBase", "(II)V"⟩
abbrev b_M_madeIn : ByteArray := prog_8_method_35_code
def y_M_madeIn : MethodName := ⟨"SurveyStoreModel", "madeIn", "(I)I"⟩
abbrev b_M_note : ByteArray := prog_8_method_33_code
def y_M_note : MethodName := ⟨"SurveyStoreModel", "note", "(IIIII)V"⟩
abbrev b_M_conflict : ByteArray := prog_8_method_37_code
def y_M_conflict : MethodName := ⟨"SurveyStoreModel", "conflict", "(III)I"⟩
abbrev b_M_isConflict : ByteArray := prog_8_method_36_code
def y_M_isConflict : MethodName := ⟨"SurveyStoreModel", "isConflict", "(II)Z"⟩
abbrev b_M_settle : ByteArray := prog_8_method_38_code
def y_M_settle : MethodName := ⟨"SurveyStoreModel", "settle", "(III)I"⟩
abbrev b_M_value : ByteArray := prog_8_method_40_code
def y_M_value : MethodName := ⟨"SurveyStoreModel", "value", "(IIII)I"⟩
abbrev b_M_isCell : ByteArray := prog_8_method_39_code
def y_M_isCell : MethodName := ⟨"SurveyStoreModel", "isCell", "(IIII)Z"⟩
abbrev b_M_isPlace : ByteArray := prog_8_method_7_code
def y_M_isPlace : MethodName := ⟨"SurveyStoreModel", "isPlace", "(I)Z"⟩
abbrev b_M_origin : ByteArray := prog_8_method_41_code
def y_M_origin : MethodName := ⟨"SurveyStoreModel", "origin", "(IIIII)I"⟩
abbrev b_M_total : ByteArray := prog_8_method_42_code
def y_M_total : MethodName := ⟨"SurveyStoreModel", "total", "(III)I"⟩
abbrev b_M_differing : ByteArray := prog_8_method_43_code
def y_M_differing : MethodName := ⟨"SurveyStoreModel", "differing", "(III)I"⟩
abbrev b_M_differs : ByteArray := prog_8_method_44_code
def y_M_differs : MethodName := ⟨"SurveyStoreModel", "differs", "(IIII)I"⟩
abbrev b_M_nearest : ByteArray := prog_8_method_45_code
def y_M_nearest : MethodName := ⟨"SurveyStoreModel", "nearest", "(III)I"⟩
abbrev b_M_about : ByteArray := prog_8_method_46_code
def y_M_about : MethodName := ⟨"SurveyStoreModel", "about", "(II)I"⟩
abbrev b_M_blocks : ByteArray := prog_8_method_49_code
def y_M_blocks : MethodName := ⟨"SurveyStoreModel", "blocks", "(I)I"⟩
abbrev b_M_isNew : ByteArray := prog_8_method_48_code
def y_M_isNew : MethodName := ⟨"SurveyStoreModel", "isNew", "(I)Z"⟩
abbrev b_M_sameBlock : ByteArray := prog_8_method_47_code
def y_M_sameBlock : MethodName := ⟨"SurveyStoreModel", "sameBlock", "(II)Z"⟩
abbrev b_L_law : ByteArray := code
def y_L_law : MethodName := ⟨"SurveyStoreLaw", "law", "([I)Z"⟩
end
section
/-! A layer of my own over the kit's worlds: the heap as a function from addresses to cells ('zG'), one judgement 'zw' (the machine comes to an end that Post takes), one contract 'zMet' (a method returns or throws), and a row for each instruction. All words of the tables are read at ONE state s0, the law's start: every later state has warmer tables and the same old cells. -/
abbrev zC : Type := (Nat × List Value) ⊕ (Nat × (Nat → Int32)) ⊕ (Nat × (Nat → Int32)) ⊕ (Nat × (Nat → Int64)) ⊕ (Nat × Nat × (Nat → Option Nat))
abbrev zO (ci : Nat) (fs : List Value) : zC := .inl (ci, fs)
abbrev zI (n : Nat) (f : Nat → Int32) : zC := .inr (.inl (n, f))
abbrev zB (n : Nat) (f : Nat → Int32) : zC := .inr (.inr (.inl (n, f)))
abbrev zJ (n : Nat) (f : Nat → Int64) : zC := .inr (.inr (.inr (.inl (n, f))))
abbrev zR (t n : Nat) (f : Nat → Option Nat) : zC := .inr (.inr (.inr (.inr (t, n, f))))
abbrev zG : Type := Nat → Option zC
def zput (G : zG) (a : Nat) (c : zC) : zG := fun q => if q = a then some c else G q
theorem zput_s (G : zG) (a : Nat) (c : zC) : zput G a c a = some c := if_pos rfl
theorem zput_n {G : zG} {a b : Nat} {c : zC} (h : b ≠ a) : zput G a c b = G b := if_neg h
theorem zput_e {G : zG} {a b : Nat} {c : zC} (h : b = a) : zput G a c b = some c := if_pos h
theorem zput_z (G : zG) (a : Nat) (c c' : zC) : zput (zput G a c) a c' = zput G a c' := by
  funext q
  unfold zput
  by_cases h : q = a
  · rw [if_pos h, if_pos h]
  · rw [if_neg h, if_neg h, if_neg h]
theorem zput_id {G : zG} {a : Nat} {c : zC} (h : G a = some c) : zput G a c = G := by
  funext q
  unfold zput
  by_cases e : q = a
  · rw [if_pos e, e, h]
  · rw [if_neg e]
theorem zput_c {G : zG} {a b : Nat} {c c' : zC} (h : a ≠ b) : zput (zput G a c) b c' = zput (zput G b c') a c := by
  funext q
  unfold zput
  by_cases e : q = a
  · subst e
    rw [if_neg h, if_pos rfl, if_pos rfl]
  · rw [if_neg e, if_neg e]
def zE (tc : Nat → ClassId) (c : zC) : va_E := match c with
  | .inl o => .inr o
  | .inr (.inl x) => .inl (tc 0, x.1, .inl x.2)
  | .inr (.inr (.inl x)) => .inl (tc 1, x.1, .inl x.2)
  | .inr (.inr (.inr (.inl x))) => .inl (tc 2, x.1, .inr (.inl x.2))
  | .inr (.inr (.inr (.inr x))) => .inl (tc x.1, x.2.1, .inr (.inr (.inr (.inr x.2.2))))
/-- the heap H holds the cells of G, and they lie in A -/
def zRep (D : va_G) (tc : Nat → ClassId) (A : Nat → Prop) (G : zG) (H : Heap) : Prop :=
  ∃ ws : va_W, va_P D zcl ws H ∧ va_D A ws ∧ (∀ (a : Nat) (c : zC), G a = some c → ∃ k : Nat, ws[k]? = some (a, zE tc c)) ∧ ∀ (k : Nat) (q : Nat × va_E), ws[k]? = some q → ∃ c : zC, G q.1 = some c ∧ q.2 = zE tc c
theorem zRep_set {D : va_G} {tc : Nat → ClassId} {A : Nat → Prop} {G : zG} {H1 : Heap} {ws : va_W} {a k : Nat} {e : va_E} {c' : zC} (hD : va_D A ws) (h3 : ∀ (a : Nat) (c : zC), G a = some c → ∃ k : Nat, ws[k]? = some (a, zE tc c)) (h4 : ∀ (k : Nat) (q : Nat × va_E), ws[k]? = some q → ∃ c : zC, G q.1 = some c ∧ q.2 = zE tc c)
    (hk : ws[k]? = some (a, e)) (hP1 : va_P D zcl (ws.set k (a, zE tc c')) H1) (hD1 : va_D A (ws.set k (a, zE tc c'))) : zRep D tc A (zput G a c') H1 := by
  have hlt : k < ws.length := (List.getElem?_eq_some_iff.mp hk).1
  refine ⟨_, hP1, hD1, fun b cb hb => ?_, fun j q hq => ?_⟩
  · by_cases e1 : b = a
    · subst e1
      rw [zput_s] at hb
      cases hb
      exact ⟨k, List.getElem?_set_self hlt⟩
    · rw [zput_n e1] at hb
      obtain ⟨j, hj⟩ := h3 b cb hb
      have hne : k ≠ j := fun e2 => by
        subst e2
        rw [hk] at hj
        cases hj
        exact e1 rfl
      exact ⟨j, by rw [List.getElem?_set_ne hne]; exact hj⟩
  · by_cases e1 : k = j
    · subst e1
      rw [List.getElem?_set_self hlt] at hq
      cases hq
      exact ⟨c', zput_s _ _ _, rfl⟩
    · rw [List.getElem?_set_ne e1] at hq
      obtain ⟨c, g1, g2⟩ := h4 j q hq
      have hne : q.1 ≠ a := fun e2 => e1 (hD.1 k j _ _ hk hq e2.symm)
      exact ⟨c, by rw [zput_n hne]; exact g1, g2⟩
theorem zRep_push {D : va_G} {tc : Nat → ClassId} {A : Nat → Prop} {G : zG} {H1 : Heap} {ws : va_W} {q : Nat} {c' : zC} (h3 : ∀ (a : Nat) (c : zC), G a = some c → ∃ k : Nat, ws[k]? = some (a, zE tc c)) (h4 : ∀ (k : Nat) (q : Nat × va_E), ws[k]? = some q → ∃ c : zC, G q.1 = some c ∧ q.2 = zE tc c)
    (hP1 : va_P D zcl (ws ++ [(q, zE tc c')]) H1) (hD1 : va_D A (ws ++ [(q, zE tc c')])) : G q = none ∧ zRep D tc A (zput G q c') H1 := by
  have hlast : (ws ++ [(q, zE tc c')])[ws.length]? = some (q, zE tc c') := by
    rw [List.getElem?_append_right (Nat.le_refl _), Nat.sub_self]
    rfl
  have hold : ∀ (j : Nat) (x : Nat × va_E), ws[j]? = some x → (ws ++ [(q, zE tc c')])[j]? = some x := fun j x hx => by
    rw [List.getElem?_append_left (List.getElem?_eq_some_iff.mp hx).1]
    exact hx
  have hno : ∀ (j : Nat) (x : Nat × va_E), ws[j]? = some x → x.1 ≠ q := fun j x hx e => by
    have h1 := hD1.1 j ws.length _ _ (hold j x hx) hlast e
    have h2 := (List.getElem?_eq_some_iff.mp hx).1
    omega
  refine ⟨?_, _, hP1, hD1, fun b cb hb => ?_, fun j x hx => ?_⟩
  · cases hg : G q with
    | none => rfl
    | some c =>
      obtain ⟨j, hj⟩ := h3 q c hg
      exact absurd rfl (hno j _ hj)
  · by_cases e1 : b = q
    · subst e1
      rw [zput_s] at hb
      cases hb
      exact ⟨ws.length, hlast⟩
    · rw [zput_n e1] at hb
      obtain ⟨j, hj⟩ := h3 b cb hb
      exact ⟨j, hold j _ hj⟩
  · by_cases hl : j < ws.length
    · rw [List.getElem?_append_left hl] at hx
      obtain ⟨c, g1, g2⟩ := h4 j x hx
      exact ⟨c, by rw [zput_n (hno j x hx)]; exact g1, g2⟩
    · rw [List.getElem?_append_right (by omega)] at hx
      have hz : j - ws.length < 1 := (List.getElem?_eq_some_iff.mp hx).1
      rw [show j - ws.length = 0 by omega] at hx
      cases hx
      exact ⟨c', zput_s _ _ _, rfl⟩
theorem zRep.weaken {D : va_G} {tc : Nat → ClassId} {A B : Nat → Prop} {G : zG} {H : Heap} (h : zRep D tc A G H) (hAB : ∀ q, A q → B q) : zRep D tc B G H := by
  obtain ⟨ws, h1, h2, h3, h4⟩ := h
  exact ⟨ws, h1, h2.weaken (fun _ _ _ hq => hAB _ hq), h3, h4⟩
theorem zRep.kept {D : va_G} {tc : Nat → ClassId} {A : Nat → Prop} {G : zG} {H H1 : Heap} (h : zRep D tc A G H) (hq : ∀ q : Nat, q < H.size → H1[q]? = H[q]?) : zRep D tc A G H1 := by
  obtain ⟨ws, h1, h2, h3, h4⟩ := h
  exact ⟨ws, h1.kept (fun k q hk => hq _ (h1 k q hk).lt), h2, h3, h4⟩
theorem zRep.inA {D : va_G} {tc : Nat → ClassId} {A : Nat → Prop} {G : zG} {H : Heap} (h : zRep D tc A G H) {a : Nat} (ha : G a ≠ none) : A a := by
  obtain ⟨ws, h1, h2, h3, h4⟩ := h
  cases hg : G a with
  | none => exact absurd hg ha
  | some c =>
    obtain ⟨k, hk⟩ := h3 a c hg
    exact h2.2 k _ hk
theorem zRep.lt {D : va_G} {tc : Nat → ClassId} {A : Nat → Prop} {G : zG} {H : Heap} (h : zRep D tc A G H) {a : Nat} (ha : G a ≠ none) : a < H.size := by
  obtain ⟨ws, h1, h2, h3, h4⟩ := h
  cases hg : G a with
  | none => exact absurd hg ha
  | some c =>
    obtain ⟨k, hk⟩ := h3 a c hg
    exact (h1 k _ hk).lt
/-! locals by their places -/
def zlk : List (Option Value) → Nat → Option Value
  | [], _ => none
  | o :: _, 0 => o
  | _ :: r, i + 1 => zlk r i
def zse : List (Option Value) → Nat → Option Value → List (Option Value)
  | [], _, _ => []
  | _ :: r, 0, v => v :: r
  | o :: r, i + 1, v => o :: zse r i v
theorem zlk_se : ∀ (zl : List (Option Value)) (i j : Nat) (v : Option Value) (w : Value), zlk (zse zl i v) j = some w → (j = i ∧ v = some w) ∨ (j ≠ i ∧ zlk zl j = some w)
  | [], i, j, v, w, h => by
    cases h
  | o :: r, 0, 0, v, w, h => Or.inl ⟨rfl, h⟩
  | o :: r, 0, j + 1, v, w, h => Or.inr ⟨Nat.succ_ne_zero j, h⟩
  | o :: r, i + 1, 0, v, w, h => Or.inr ⟨(Nat.succ_ne_zero i).symm, h⟩
  | o :: r, i + 1, j + 1, v, w, h => by
    rcases zlk_se r i j v w h with ⟨h1, h2⟩ | ⟨h1, h2⟩
    · exact Or.inl ⟨by omega, h2⟩
    · exact Or.inr ⟨by omega, h2⟩
def zbl (zl : List (Option Value)) (i : Nat) : List (Option Value) := match i with
  | 0 => zl
  | j + 1 => match zlk zl j with
    | some (.long _) => zse zl j none
    | some (.double _) => zse zl j none
    | _ => zl
/-- a value of one word is kept at place i; a value of two words that would be cut is forgotten -/
def zst (zl : List (Option Value)) (i : Nat) (v : Value) : List (Option Value) := zse (zbl zl i) i (some v)
def zst2 (zl : List (Option Value)) (i : Nat) (v : Value) : List (Option Value) := zse (zse (zbl zl i) i (some v)) (i + 1) none
theorem zbl_sub {zl : List (Option Value)} {i j : Nat} {w : Value} (h : zlk (zbl zl i) j = some w) : zlk zl j = some w ∧ ¬ (j + 1 = i ∧ w.category = 2) := by
  cases i with
  | zero => exact ⟨h, fun q => by omega⟩
  | succ i =>
    unfold zbl at h
    dsimp only at h
    split at h
    · rcases zlk_se _ _ _ _ _ h with ⟨_, h2⟩ | ⟨h1, h2⟩
      · cases h2
      · exact ⟨h2, fun q => h1 (by omega)⟩
    · rcases zlk_se _ _ _ _ _ h with ⟨_, h2⟩ | ⟨h1, h2⟩
      · cases h2
      · exact ⟨h2, fun q => h1 (by omega)⟩
    · rename_i h1 h2
      refine ⟨h, fun q => ?_⟩
      have e : j = i := by omega
      subst e
      obtain ⟨-, q⟩ := q
      cases w with
      | long x => exact h1 x h
      | double x => exact h2 x h
      | _ => exact absurd q (by simp [Value.category])
def zloc (L : Array Slot) (nL : Nat) (zl : List (Option Value)) : Prop := ∃ l : List (Nat × Value), lv_has L nL l ∧ ∀ (i : Nat) (v : Value), zlk zl i = some v → (i, v) ∈ l
theorem zloc.at {L : Array Slot} {nL : Nat} {zl : List (Option Value)} (h : zloc L nL zl) {i : Nat} {v : Value} (hi : zlk zl i = some v) : L[i]? = some (.val v) := by
  obtain ⟨l, h1, h2⟩ := h
  exact h1.2.2 _ (h2 i v hi)
theorem zloc.size {L : Array Slot} {nL : Nat} {zl : List (Option Value)} (h : zloc L nL zl) : L.size = nL := by
  obtain ⟨l, h1, h2⟩ := h
  exact h1.1
theorem zloc.st1 {l : List (Nat × Value)} {zl : List (Option Value)} (h2 : ∀ (i : Nat) (v : Value), zlk zl i = some v → (i, v) ∈ l) {L : Array Slot} {nL i : Nat} {v : Value} (h : lv_has L nL ((i, v) :: l.filter (fun q => !(q.1 == i) && !(q.1 + 1 == i && q.2.category == 2)))) : zloc L nL (zst zl i v) := by
  refine ⟨_, h, fun j w hw => ?_⟩
  rcases zlk_se _ _ _ _ _ hw with ⟨e1, e2⟩ | ⟨e1, e2⟩
  · cases e2
    rw [e1]
    exact List.mem_cons_self
  · obtain ⟨g1, g2⟩ := zbl_sub e2
    refine List.mem_cons_of_mem _ (List.mem_filter.mpr ⟨h2 j w g1, ?_⟩)
    show (!(j == i) && !(j + 1 == i && w.category == 2)) = true
    rw [Bool.and_eq_true, Bool.not_eq_true', Bool.not_eq_true']
    refine ⟨beq_false_of_ne e1, ?_⟩
    rw [Bool.and_eq_false_iff]
    by_cases e : j + 1 = i
    · exact Or.inr (beq_false_of_ne fun q => g2 ⟨e, q⟩)
    · exact Or.inl (beq_false_of_ne e)
theorem zloc.st2 {l : List (Nat × Value)} {zl : List (Option Value)} (h2 : ∀ (i : Nat) (v : Value), zlk zl i = some v → (i, v) ∈ l) {L : Array Slot} {nL i : Nat} {v : Value} (h : lv_has L nL ((i, v) :: l.filter (fun q => !(q.1 == i) && (!(q.1 == i + 1) && !(q.1 + 1 == i && q.2.category == 2))))) : zloc L nL (zst2 zl i v) := by
  refine ⟨_, h, fun j w hw => ?_⟩
  rcases zlk_se _ _ _ _ _ hw with ⟨e1, e2⟩ | ⟨e0, e2⟩
  · cases e2
  · rcases zlk_se _ _ _ _ _ e2 with ⟨e1, e2⟩ | ⟨e1, e2⟩
    · cases e2
      rw [e1]
      exact List.mem_cons_self
    · obtain ⟨g1, g2⟩ := zbl_sub e2
      refine List.mem_cons_of_mem _ (List.mem_filter.mpr ⟨h2 j w g1, ?_⟩)
      show (!(j == i) && (!(j == i + 1) && !(j + 1 == i && w.category == 2))) = true
      rw [Bool.and_eq_true, Bool.and_eq_true, Bool.not_eq_true', Bool.not_eq_true', Bool.not_eq_true']
      refine ⟨beq_false_of_ne e1, beq_false_of_ne e0, ?_⟩
      rw [Bool.and_eq_false_iff]
      by_cases e : j + 1 = i
      · exact Or.inr (beq_false_of_ne fun q => g2 ⟨e, q⟩)
      · exact Or.inl (beq_false_of_ne e)
def zarg : List Value → List (Option Value)
  | [] => []
  | v :: r => if v.category = 2 then some v :: none :: zarg r else some v :: zarg r
theorem zarg_in : ∀ (vs : List Value) (b i : Nat) (v : Value), zlk (zarg vs) i = some v → (b + i, v) ∈ lv_args b vs
  | [], b, i, v, h => by cases h
  | w :: r, b, i, v, h => by
    unfold zarg at h
    unfold lv_args
    by_cases hc : w.category = 2
    · rw [if_pos hc] at h ⊢
      match i, h with
      | 0, h => cases h; exact List.mem_cons_self
      | 1, h => cases h
      | i + 2, h => exact List.mem_cons_of_mem _ (by rw [show b + (i + 2) = (b + 2) + i by omega]; exact zarg_in r (b + 2) i v h)
    · rw [if_neg hc] at h ⊢
      match i, h with
      | 0, h => cases h; exact List.mem_cons_self
      | i + 1, h => exact List.mem_cons_of_mem _ (by rw [show b + (i + 1) = (b + 1) + i by omega]; exact zarg_in r (b + 1) i v h)
theorem zlk_app : ∀ (zl : List (Option Value)) (n i : Nat) (v : Value), zlk (zl ++ List.replicate n none) i = some v → zlk zl i = some v
  | [], n, i, v, h => by
    exfalso
    revert i
    induction n with
    | zero => intro i h; cases h
    | succ n ih =>
      intro i h
      cases i with
      | zero => cases h
      | succ i => exact ih i h
  | o :: r, n, 0, v, h => h
  | o :: r, n, i + 1, v, h => zlk_app r n i v h
def zent (vs : List Value) (nL : Nat) : List (Option Value) := zarg vs ++ List.replicate (nL - (zarg vs).length) none
/-! the judgement -/
/-- the law's start, its arguments, where the classes' fields lie, the array classes, the launch -/
abbrev zGt : Type := State × Array Value × va_G × (Nat → ClassId) × Launch
abbrev zs0 (g : zGt) : State := g.1
abbrev za0 (g : zGt) : Array Value := g.2.1
abbrev zD (g : zGt) : va_G := g.2.2.1
abbrev ztc (g : zGt) : Nat → ClassId := g.2.2.2.1
abbrev zl0 (g : zGt) : Launch := g.2.2.2.2
def zGl (g : zGt) : Prop := (∀ w ∈ zTW, w.before (za0 g) (zs0 g) = true) ∧ va_K (zD g) zcl (zty (ztc g)) (zs0 g) ∧ (zl0 g).stackTraces = false
abbrev zRes : Type := Option Value ⊕ String
def zrm (d mc ms : Nat) : Room := { frames := d, cells := mc, slots := ms, locals := 64 * d }
def zA (g : zGt) (G : zG) (sz : Nat) : Nat → Prop := fun q => (G q ≠ none ∨ sz ≤ q) ∧ (zs0 g).heap.size ≤ q
/-- a later state: warmer tables, the old cells as they were -/
def zAft (g : zGt) (U : State) (H : Heap) : Prop := (zs0 g).WarmedH U.vm ∧ (zs0 g).heap.size ≤ H.size ∧ ∀ q : Nat, q < (zs0 g).heap.size → H[q]? = (zs0 g).heap[q]?
def zOut (r : zRes) (o : Outcome) (st t : State) : Prop := match r with
  | .inl v => o = .returned v
  | .inr E => ∃ (q : Addr) (ce : Cell), o = .threw q ∧ t.heap[q]? = some ce ∧ ce.vm = .none ∧ st.vm.findClass E = some ce.cls
def zQ (g : zGt) (A : Nat → Prop) (mc ms : Nat) (Post : zRes → zG → Prop) : Array Value → State → Outcome → State → Prop := fun _ st o t =>
  ∃ (r : zRes) (G : zG) (L : List Loc), Post r G ∧ zRep (zD g) (ztc g) A G t.heap ∧ va_F A st t ∧ st.WarmedH t.vm ∧ st.sameButNew ({ t with vm := st.vm } : State) L mc ms ∧ (∀ z ∈ L, A z.base) ∧ zOut r o st t
def zEnd (g : zGt) (below : List Frame) (args : Array Value) (s : State) (A : Nat → Prop) (mc ms : Nat) (Post : zRes → zG → Prop) : State → Prop := fun t =>
  ∃ o, t.status = .running ∧ Ended t below o ∧ zQ g A mc ms Post args s o t
abbrev zX : Type := Program × Env × Room × State × MethodId × Array Value × List Frame × Method × Code × (Nat → Prop) × Nat
def zw (g : zGt) (X : zX) (Post : zRes → zG → Prop) (pc : Nat) (zl : List (Option Value)) (st : List Value) (G : zG) (k n : Nat) : Prop := match X with
  | (p, e, R, s, m, args, below, meth, c, A, nL) => ∀ (H : Heap) (locs : List Loc) (L : Array Slot), zRep (zD g) (ztc g) A G H → va_S A s.heap H locs → zloc L nL zl → k ≤ R.cells → n ≤ R.slots →
      W p (zl0 g) e R s m args below meth c H locs k n (zEnd g below args s A R.cells R.slots Post) (F0 m pc L st)
/-- the machine throws the cell q, an E, at pc -/
def zt (g : zGt) (X : zX) (Post : zRes → zG → Prop) (pc : Nat) (E : String) (zl : List (Option Value)) (G : zG) (k n : Nat) : Prop := match X with
  | (p, e, R, s, m, args, below, meth, c, A, nL) => ∀ (H : Heap) (locs : List Loc) (L : Array Slot) (st : List Value) (q : Addr) (ce : Cell), zRep (zD g) (ztc g) A G H → va_S A s.heap H locs → zloc L nL zl → k ≤ R.cells → n ≤ R.slots → H[q]? = some ce → ce.vm = .none → s.vm.findClass E = some ce.cls →
      ∀ T : State, T.heap = H → Stand p (zl0 g) e R s m args below meth c T locs k n → ∃ t, Steps p.tables e below ((T.setTop (F0 m pc L st)).pushFrame (.throwing q)) t ∧ zEnd g below args s A R.cells R.slots Post t
/-- what a method's walk may use -/
def zOK (g : zGt) (X : zX) (cc : ByteArray) (y : MethodName) (ret : Option FieldType) (tb : List (Nat × Nat × Nat × Nat)) (nl d mc ms : Nat) : Prop := match X with
  | (p, _, R, s, m, _, _, meth, c, A, nL) => zGl g ∧ p.tables.exec = Jvm.exec ∧ c.code = cc ∧ c.maxLocals = nL ∧ nL = nl ∧ s.vm.findClass y.cls = some m.cls ∧ meth.name = y.name ∧ zAft g s s.heap ∧ (∀ q : Nat, s.heap.size ≤ q → A q) ∧ (∀ q, A q → (zs0 g).heap.size ≤ q) ∧ meth.locks = false ∧ meth.sig.returnType = ret ∧ c.exceptionTable.toList = tableOf tb ∧ R = zrm d mc ms
section ZW
variable {g : zGt} {p : Program} {e : Env} {R : Room} {s : State} {m : MethodId} {args : Array Value} {below : List Frame} {meth : Method} {c : Code} {A : Nat → Prop} {nL : Nat}
variable {cc : ByteArray} {y : MethodName} {ret : Option FieldType} {tb : List (Nat × Nat × Nat × Nat)} {nl d mc ms : Nat}
theorem zOK.gl (h : zOK g (p, e, R, s, m, args, below, meth, c, A, nL) cc y ret tb nl d mc ms) : zGl g := h.1
theorem zOK.ex (h : zOK g (p, e, R, s, m, args, below, meth, c, A, nL) cc y ret tb nl d mc ms) : p.tables.exec = Jvm.exec := h.2.1
theorem zOK.cd (h : zOK g (p, e, R, s, m, args, below, meth, c, A, nL) cc y ret tb nl d mc ms) : c.code = cc := h.2.2.1
theorem zOK.ml (h : zOK g (p, e, R, s, m, args, below, meth, c, A, nL) cc y ret tb nl d mc ms) : c.maxLocals = nL := h.2.2.2.1
theorem zOK.nq (h : zOK g (p, e, R, s, m, args, below, meth, c, A, nL) cc y ret tb nl d mc ms) : nL = nl := h.2.2.2.2.1
theorem zOK.ow (h : zOK g (p, e, R, s, m, args, below, meth, c, A, nL) cc y ret tb nl d mc ms) : s.vm.findClass y.cls = some m.cls := h.2.2.2.2.2.1
theorem zOK.nm (h : zOK g (p, e, R, s, m, args, below, meth, c, A, nL) cc y ret tb nl d mc ms) : meth.name = y.name := h.2.2.2.2.2.2.1
theorem zOK.af (h : zOK g (p, e, R, s, m, args, below, meth, c, A, nL) cc y ret tb nl d mc ms) : zAft g s s.heap := h.2.2.2.2.2.2.2.1
theorem zOK.hA (h : zOK g (p, e, R, s, m, args, below, meth, c, A, nL) cc y ret tb nl d mc ms) : ∀ q : Nat, s.heap.size ≤ q → A q := h.2.2.2.2.2.2.2.2.1
theorem zOK.A0 (h : zOK g (p, e, R, s, m, args, below, meth, c, A, nL) cc y ret tb nl d mc ms) : ∀ q, A q → (zs0 g).heap.size ≤ q := h.2.2.2.2.2.2.2.2.2.1
theorem zOK.lk (h : zOK g (p, e, R, s, m, args, below, meth, c, A, nL) cc y ret tb nl d mc ms) : meth.locks = false := h.2.2.2.2.2.2.2.2.2.2.1
theorem zOK.rt (h : zOK g (p, e, R, s, m, args, below, meth, c, A, nL) cc y ret tb nl d mc ms) : meth.sig.returnType = ret := h.2.2.2.2.2.2.2.2.2.2.2.1
theorem zOK.tq (h : zOK g (p, e, R, s, m, args, below, meth, c, A, nL) cc y ret tb nl d mc ms) : c.exceptionTable.toList = tableOf tb := h.2.2.2.2.2.2.2.2.2.2.2.2.1
theorem zOK.rm (h : zOK g (p, e, R, s, m, args, below, meth, c, A, nL) cc y ret tb nl d mc ms) : R = zrm d mc ms := h.2.2.2.2.2.2.2.2.2.2.2.2.2
theorem zOK.K (h : zOK g (p, e, R, s, m, args, below, meth, c, A, nL) cc y ret tb nl d mc ms) : va_K (zD g) zcl (zty (ztc g)) s := va_K.moved h.af.1.alike h.gl.2.1
/-- a word of the tables, here -/
theorem zOK.wd (h : zOK g (p, e, R, s, m, args, below, meth, c, A, nL) cc y ret tb nl d mc ms) {w : Cond} (hw : w ∈ zTW) (hg : (w.onTables && w.keeps) = true ∨ ∃ ty, w = .arrayClass ty) : w.before args s = true := word_at h.af.1 hg (h.gl.1 w hw)
theorem zOK.wk (h : zOK g (p, e, R, s, m, args, below, meth, c, A, nL) cc y ret tb nl d mc ms) {w : Cond} (hw : w ∈ zTW) (hg : (w.onTables && w.keeps) = true) : w.before args s = true := h.wd hw (Or.inl hg)
end ZW
end
section
section ZR
variable {g : zGt} {X : zX} {cc : ByteArray} {y : MethodName} {ret : Option FieldType} {tb : List (Nat × Nat × Nat × Nat)} {nl d mc ms : Nat} {Post : zRes → zG → Prop} {pc : Nat} {zl : List (Option Value)} {st : List Value} {G : zG} {k n : Nat}
theorem zr_iconst (hX : zOK g X cc y ret tb nl d mc ms) {i : Int} {v : Int32} (hv : Int32.ofInt i = v) (hd : decode cc pc = .ok (.iconst i, 1)) (kk : zw g X Post (pc + 1) zl (.int v :: st) G k n) : zw g X Post pc zl st G k n := by
  obtain ⟨p, e, R, s, m, args, below, meth, c, A, nL⟩ := X
  intro H locs L hR hS hL hk hn
  exact lv_iconst hX.ex hX.cd hd hv (kk H locs L hR hS hL hk hn)
theorem zr_bipush (hX : zOK g X cc y ret tb nl d mc ms) {i : Int} {v : Int32} (hv : (Int8.ofInt i).toInt32 = v) (hd : decode cc pc = .ok (.bipush i, 2)) (kk : zw g X Post (pc + 2) zl (.int v :: st) G k n) : zw g X Post pc zl st G k n := by
  obtain ⟨p, e, R, s, m, args, below, meth, c, A, nL⟩ := X
  intro H locs L hR hS hL hk hn
  exact lv_bipush hX.ex hX.cd hd hv (kk H locs L hR hS hL hk hn)
theorem zr_sipush (hX : zOK g X cc y ret tb nl d mc ms) {i : Int} {v : Int32} (hv : (Int16.ofInt i).toInt32 = v) (hd : decode cc pc = .ok (.sipush i, 3)) (kk : zw g X Post (pc + 3) zl (.int v :: st) G k n) : zw g X Post pc zl st G k n := by
  obtain ⟨p, e, R, s, m, args, below, meth, c, A, nL⟩ := X
  intro H locs L hR hS hL hk hn
  exact lv_sipush hX.ex hX.cd hd hv (kk H locs L hR hS hL hk hn)
theorem zr_ldc (hX : zOK g X cc y ret tb nl d mc ms) {i : Nat} {v : Int32} (hw : Jvm.Cond.constant y.cls i v ∈ zTW) (hd : decode cc pc = .ok (.ldc i, 2)) (kk : zw g X Post (pc + 2) zl (.int v :: st) G k n) : zw g X Post pc zl st G k n := by
  obtain ⟨p, e, R, s, m, args, below, meth, c, A, nL⟩ := X
  intro H locs L hR hS hL hk hn
  exact lv_ldc hX.ex hX.cd hX.ow (hX.wk hw rfl) hd (kk H locs L hR hS hL hk hn)
theorem zr_ldcw (hX : zOK g X cc y ret tb nl d mc ms) {i : Nat} {v : Int32} (hw : Jvm.Cond.constant y.cls i v ∈ zTW) (hd : decode cc pc = .ok (.ldc_w i, 3)) (kk : zw g X Post (pc + 3) zl (.int v :: st) G k n) : zw g X Post pc zl st G k n := by
  obtain ⟨p, e, R, s, m, args, below, meth, c, A, nL⟩ := X
  intro H locs L hR hS hL hk hn
  exact lv_ldcw hX.ex hX.cd hX.ow (hX.wk hw rfl) hd (kk H locs L hR hS hL hk hn)
theorem zr_ldc2 (hX : zOK g X cc y ret tb nl d mc ms) {i : Nat} {v : Int64} (hw : Jvm.Cond.constantLong y.cls i v ∈ zTW) (hd : decode cc pc = .ok (.ldc2_w i, 3)) (kk : zw g X Post (pc + 3) zl (.long v :: st) G k n) : zw g X Post pc zl st G k n := by
  obtain ⟨p, e, R, s, m, args, below, meth, c, A, nL⟩ := X
  intro H locs L hR hS hL hk hn
  exact lv_ldc2 hX.ex hX.cd hX.ow (hX.wk hw rfl) hd (kk H locs L hR hS hL hk hn)
theorem zr_null (hX : zOK g X cc y ret tb nl d mc ms)  (hd : decode cc pc = .ok (.aconst_null, 1)) (kk : zw g X Post (pc + 1) zl (.null :: st) G k n) : zw g X Post pc zl st G k n := by
  obtain ⟨p, e, R, s, m, args, below, meth, c, A, nL⟩ := X
  intro H locs L hR hS hL hk hn
  exact lv_null hX.ex hX.cd hd (kk H locs L hR hS hL hk hn)
theorem zr_iload_n (hX : zOK g X cc y ret tb nl d mc ms) {i : Fin 4} {x : Int32} (hl : zlk zl (i : Nat) = some (.int x)) (hd : decode cc pc = .ok (.iload_n i, 1)) (kk : zw g X Post (pc + 1) zl (.int x :: st) G k n) : zw g X Post pc zl st G k n := by
  obtain ⟨p, e, R, s, m, args, below, meth, c, A, nL⟩ := X
  intro H locs L hR hS hL hk hn
  exact lv_iload_n hX.ex hX.cd hd rfl (hL.at hl) (kk H locs L hR hS hL hk hn)
theorem zr_iload (hX : zOK g X cc y ret tb nl d mc ms) {i : Nat} {x : Int32} (hl : zlk zl i = some (.int x)) (hd : decode cc pc = .ok (.iload i, 2)) (kk : zw g X Post (pc + 2) zl (.int x :: st) G k n) : zw g X Post pc zl st G k n := by
  obtain ⟨p, e, R, s, m, args, below, meth, c, A, nL⟩ := X
  intro H locs L hR hS hL hk hn
  exact lv_iload hX.ex hX.cd hd (hL.at hl) (kk H locs L hR hS hL hk hn)
theorem zr_lload_n (hX : zOK g X cc y ret tb nl d mc ms) {i : Fin 4} {x : Int64} (hl : zlk zl (i : Nat) = some (.long x)) (hd : decode cc pc = .ok (.lload_n i, 1)) (kk : zw g X Post (pc + 1) zl (.long x :: st) G k n) : zw g X Post pc zl st G k n := by
  obtain ⟨p, e, R, s, m, args, below, meth, c, A, nL⟩ := X
  intro H locs L hR hS hL hk hn
  exact lv_lload_n hX.ex hX.cd hd rfl (hL.at hl) (kk H locs L hR hS hL hk hn)
theorem zr_lload (hX : zOK g X cc y ret tb nl d mc ms) {i : Nat} {x : Int64} (hl : zlk zl i = some (.long x)) (hd : decode cc pc = .ok (.lload i, 2)) (kk : zw g X Post (pc + 2) zl (.long x :: st) G k n) : zw g X Post pc zl st G k n := by
  obtain ⟨p, e, R, s, m, args, below, meth, c, A, nL⟩ := X
  intro H locs L hR hS hL hk hn
  exact lv_lload hX.ex hX.cd hd (hL.at hl) (kk H locs L hR hS hL hk hn)
theorem zr_aload_n (hX : zOK g X cc y ret tb nl d mc ms) {i : Fin 4} {x : Nat} (hl : zlk zl (i : Nat) = some (.ref x)) (hd : decode cc pc = .ok (.aload_n i, 1)) (kk : zw g X Post (pc + 1) zl (.ref x :: st) G k n) : zw g X Post pc zl st G k n := by
  obtain ⟨p, e, R, s, m, args, below, meth, c, A, nL⟩ := X
  intro H locs L hR hS hL hk hn
  exact lv_aload_n hX.ex hX.cd hd rfl (hL.at hl) (kk H locs L hR hS hL hk hn)
theorem zr_aload (hX : zOK g X cc y ret tb nl d mc ms) {i : Nat} {x : Nat} (hl : zlk zl i = some (.ref x)) (hd : decode cc pc = .ok (.aload i, 2)) (kk : zw g X Post (pc + 2) zl (.ref x :: st) G k n) : zw g X Post pc zl st G k n := by
  obtain ⟨p, e, R, s, m, args, below, meth, c, A, nL⟩ := X
  intro H locs L hR hS hL hk hn
  exact lv_aload hX.ex hX.cd hd (hL.at hl) (kk H locs L hR hS hL hk hn)
theorem zr_aload_nN (hX : zOK g X cc y ret tb nl d mc ms) {i : Fin 4} (hl : zlk zl (i : Nat) = some .null) (hd : decode cc pc = .ok (.aload_n i, 1)) (kk : zw g X Post (pc + 1) zl (.null :: st) G k n) : zw g X Post pc zl st G k n := by
  obtain ⟨p, e, R, s, m, args, below, meth, c, A, nL⟩ := X
  intro H locs L hR hS hL hk hn
  exact lv_aload_nN hX.ex hX.cd hd rfl (hL.at hl) (kk H locs L hR hS hL hk hn)
theorem zr_aloadN (hX : zOK g X cc y ret tb nl d mc ms) {i : Nat} (hl : zlk zl i = some .null) (hd : decode cc pc = .ok (.aload i, 2)) (kk : zw g X Post (pc + 2) zl (.null :: st) G k n) : zw g X Post pc zl st G k n := by
  obtain ⟨p, e, R, s, m, args, below, meth, c, A, nL⟩ := X
  intro H locs L hR hS hL hk hn
  exact lv_aloadN hX.ex hX.cd hd (hL.at hl) (kk H locs L hR hS hL hk hn)
theorem zr_istore_n (hX : zOK g X cc y ret tb nl d mc ms) {i : Fin 4} {x : Int32} (hi : (i : Nat) < nl) (hd : decode cc pc = .ok (.istore_n i, 1)) (kk : zw g X Post (pc + 1) (zst zl (i : Nat) (.int x)) st G k n) : zw g X Post pc zl (.int x :: st) G k n := by
  obtain ⟨p, e, R, s, m, args, below, meth, c, A, nL⟩ := X
  intro H locs L hR hS hL hk hn
  obtain ⟨l9, h1, h2⟩ := hL
  exact lv_istore_n hX.ex hX.cd hd rfl h1 (by rw [hX.nq]; exact hi) rfl (fun L1 hL1 => kk H locs L1 hR hS (zloc.st1 h2 hL1) hk hn)
theorem zr_lstore_n (hX : zOK g X cc y ret tb nl d mc ms) {i : Fin 4} {x : Int64} (hi : (i : Nat) + 1 < nl) (hd : decode cc pc = .ok (.lstore_n i, 1)) (kk : zw g X Post (pc + 1) (zst2 zl (i : Nat) (.long x)) st G k n) : zw g X Post pc zl (.long x :: st) G k n := by
  obtain ⟨p, e, R, s, m, args, below, meth, c, A, nL⟩ := X
  intro H locs L hR hS hL hk hn
  obtain ⟨l9, h1, h2⟩ := hL
  exact lv_lstore_n hX.ex hX.cd hd rfl h1 (by rw [hX.nq]; exact hi) rfl (fun L1 hL1 => kk H locs L1 hR hS (zloc.st2 h2 hL1) hk hn)
theorem zr_astore_n (hX : zOK g X cc y ret tb nl d mc ms) {i : Fin 4} {x : Nat} (hi : (i : Nat) < nl) (hd : decode cc pc = .ok (.astore_n i, 1)) (kk : zw g X Post (pc + 1) (zst zl (i : Nat) (.ref x)) st G k n) : zw g X Post pc zl (.ref x :: st) G k n := by
  obtain ⟨p, e, R, s, m, args, below, meth, c, A, nL⟩ := X
  intro H locs L hR hS hL hk hn
  obtain ⟨l9, h1, h2⟩ := hL
  exact lv_astore_n hX.ex hX.cd hd rfl h1 (by rw [hX.nq]; exact hi) rfl (fun L1 hL1 => kk H locs L1 hR hS (zloc.st1 h2 hL1) hk hn)
theorem zr_astore_nN (hX : zOK g X cc y ret tb nl d mc ms) {i : Fin 4} (hi : (i : Nat) < nl) (hd : decode cc pc = .ok (.astore_n i, 1)) (kk : zw g X Post (pc + 1) (zst zl (i : Nat) (.null)) st G k n) : zw g X Post pc zl (.null :: st) G k n := by
  obtain ⟨p, e, R, s, m, args, below, meth, c, A, nL⟩ := X
  intro H locs L hR hS hL hk hn
  obtain ⟨l9, h1, h2⟩ := hL
  exact lv_astore_nN hX.ex hX.cd hd rfl h1 (by rw [hX.nq]; exact hi) rfl (fun L1 hL1 => kk H locs L1 hR hS (zloc.st1 h2 hL1) hk hn)
theorem zr_istore (hX : zOK g X cc y ret tb nl d mc ms) {i : Nat} {x : Int32} (hi : i < nl) (hd : decode cc pc = .ok (.istore i, 2)) (kk : zw g X Post (pc + 2) (zst zl i (.int x)) st G k n) : zw g X Post pc zl (.int x :: st) G k n := by
  obtain ⟨p, e, R, s, m, args, below, meth, c, A, nL⟩ := X
  intro H locs L hR hS hL hk hn
  obtain ⟨l9, h1, h2⟩ := hL
  exact lv_istore hX.ex hX.cd hd h1 (by rw [hX.nq]; exact hi) rfl (fun L1 hL1 => kk H locs L1 hR hS (zloc.st1 h2 hL1) hk hn)
theorem zr_lstore (hX : zOK g X cc y ret tb nl d mc ms) {i : Nat} {x : Int64} (hi : i + 1 < nl) (hd : decode cc pc = .ok (.lstore i, 2)) (kk : zw g X Post (pc + 2) (zst2 zl i (.long x)) st G k n) : zw g X Post pc zl (.long x :: st) G k n := by
  obtain ⟨p, e, R, s, m, args, below, meth, c, A, nL⟩ := X
  intro H locs L hR hS hL hk hn
  obtain ⟨l9, h1, h2⟩ := hL
  exact lv_lstore hX.ex hX.cd hd h1 (by rw [hX.nq]; exact hi) rfl (fun L1 hL1 => kk H locs L1 hR hS (zloc.st2 h2 hL1) hk hn)
theorem zr_astore (hX : zOK g X cc y ret tb nl d mc ms) {i : Nat} {x : Nat} (hi : i < nl) (hd : decode cc pc = .ok (.astore i, 2)) (kk : zw g X Post (pc + 2) (zst zl i (.ref x)) st G k n) : zw g X Post pc zl (.ref x :: st) G k n := by
  obtain ⟨p, e, R, s, m, args, below, meth, c, A, nL⟩ := X
  intro H locs L hR hS hL hk hn
  obtain ⟨l9, h1, h2⟩ := hL
  exact lv_astore hX.ex hX.cd hd h1 (by rw [hX.nq]; exact hi) rfl (fun L1 hL1 => kk H locs L1 hR hS (zloc.st1 h2 hL1) hk hn)
theorem zr_astoreN (hX : zOK g X cc y ret tb nl d mc ms) {i : Nat} (hi : i < nl) (hd : decode cc pc = .ok (.astore i, 2)) (kk : zw g X Post (pc + 2) (zst zl i (.null)) st G k n) : zw g X Post pc zl (.null :: st) G k n := by
  obtain ⟨p, e, R, s, m, args, below, meth, c, A, nL⟩ := X
  intro H locs L hR hS hL hk hn
  obtain ⟨l9, h1, h2⟩ := hL
  exact lv_astoreN hX.ex hX.cd hd h1 (by rw [hX.nq]; exact hi) rfl (fun L1 hL1 => kk H locs L1 hR hS (zloc.st1 h2 hL1) hk hn)
theorem zr_iinc (hX : zOK g X cc y ret tb nl d mc ms) {i : Nat} {z : Int} {x v : Int32} (hl : zlk zl i = some (.int x)) (hv : x + Int32.ofInt z = v) (hi : i < nl) (hd : decode cc pc = .ok (.iinc i z, 3)) (kk : zw g X Post (pc + 3) (zst zl i (.int v)) st G k n) : zw g X Post pc zl st G k n := by
  obtain ⟨p, e, R, s, m, args, below, meth, c, A, nL⟩ := X
  intro H locs L hR hS hL hk hn
  obtain ⟨l9, h1, h2⟩ := hL
  obtain ⟨j, hj⟩ := List.getElem?_of_mem (h2 _ _ hl)
  exact lv_iinc hX.ex hX.cd hd h1 hj hv (by rw [hX.nq]; exact hi) rfl (fun L1 hL1 => kk H locs L1 hR hS (zloc.st1 h2 hL1) hk hn)
theorem zr_iadd (hX : zOK g X cc y ret tb nl d mc ms) {x z : Int32} (hd : decode cc pc = .ok (.iadd, 1)) (kk : zw g X Post (pc + 1) zl (.int (x + z) :: st) G k n) : zw g X Post pc zl (.int z :: .int x :: st) G k n := by
  obtain ⟨p, e, R, s, m, args, below, meth, c, A, nL⟩ := X
  intro H locs L hR hS hL hk hn
  exact lv_iadd hX.ex hX.cd hd (kk H locs L hR hS hL hk hn)
theorem zr_isub (hX : zOK g X cc y ret tb nl d mc ms) {x z : Int32} (hd : decode cc pc = .ok (.isub, 1)) (kk : zw g X Post (pc + 1) zl (.int (x - z) :: st) G k n) : zw g X Post pc zl (.int z :: .int x :: st) G k n := by
  obtain ⟨p, e, R, s, m, args, below, meth, c, A, nL⟩ := X
  intro H locs L hR hS hL hk hn
  exact lv_isub hX.ex hX.cd hd (kk H locs L hR hS hL hk hn)
theorem zr_imul (hX : zOK g X cc y ret tb nl d mc ms) {x z : Int32} (hd : decode cc pc = .ok (.imul, 1)) (kk : zw g X Post (pc + 1) zl (.int (x * z) :: st) G k n) : zw g X Post pc zl (.int z :: .int x :: st) G k n := by
  obtain ⟨p, e, R, s, m, args, below, meth, c, A, nL⟩ := X
  intro H locs L hR hS hL hk hn
  exact lv_imul hX.ex hX.cd hd (kk H locs L hR hS hL hk hn)
theorem zr_iand (hX : zOK g X cc y ret tb nl d mc ms) {x z : Int32} (hd : decode cc pc = .ok (.iand, 1)) (kk : zw g X Post (pc + 1) zl (.int (x &&& z) :: st) G k n) : zw g X Post pc zl (.int z :: .int x :: st) G k n := by
  obtain ⟨p, e, R, s, m, args, below, meth, c, A, nL⟩ := X
  intro H locs L hR hS hL hk hn
  exact lv_iand hX.ex hX.cd hd (kk H locs L hR hS hL hk hn)
theorem zr_ior (hX : zOK g X cc y ret tb nl d mc ms) {x z : Int32} (hd : decode cc pc = .ok (.ior, 1)) (kk : zw g X Post (pc + 1) zl (.int (x ||| z) :: st) G k n) : zw g X Post pc zl (.int z :: .int x :: st) G k n := by
  obtain ⟨p, e, R, s, m, args, below, meth, c, A, nL⟩ := X
  intro H locs L hR hS hL hk hn
  exact lv_ior hX.ex hX.cd hd (kk H locs L hR hS hL hk hn)
theorem zr_ixor (hX : zOK g X cc y ret tb nl d mc ms) {x z : Int32} (hd : decode cc pc = .ok (.ixor, 1)) (kk : zw g X Post (pc + 1) zl (.int (x ^^^ z) :: st) G k n) : zw g X Post pc zl (.int z :: .int x :: st) G k n := by
  obtain ⟨p, e, R, s, m, args, below, meth, c, A, nL⟩ := X
  intro H locs L hR hS hL hk hn
  exact lv_ixor hX.ex hX.cd hd (kk H locs L hR hS hL hk hn)
theorem zr_ishl (hX : zOK g X cc y ret tb nl d mc ms) {x z : Int32} (hd : decode cc pc = .ok (.ishl, 1)) (kk : zw g X Post (pc + 1) zl (.int (x <<< (z &&& 31)) :: st) G k n) : zw g X Post pc zl (.int z :: .int x :: st) G k n := by
  obtain ⟨p, e, R, s, m, args, below, meth, c, A, nL⟩ := X
  intro H locs L hR hS hL hk hn
  exact lv_ishl hX.ex hX.cd hd (kk H locs L hR hS hL hk hn)
theorem zr_ishr (hX : zOK g X cc y ret tb nl d mc ms) {x z : Int32} (hd : decode cc pc = .ok (.ishr, 1)) (kk : zw g X Post (pc + 1) zl (.int (x >>> (z &&& 31)) :: st) G k n) : zw g X Post pc zl (.int z :: .int x :: st) G k n := by
  obtain ⟨p, e, R, s, m, args, below, meth, c, A, nL⟩ := X
  intro H locs L hR hS hL hk hn
  exact lv_ishr hX.ex hX.cd hd (kk H locs L hR hS hL hk hn)
theorem zr_iushr (hX : zOK g X cc y ret tb nl d mc ms) {x z : Int32} (hd : decode cc pc = .ok (.iushr, 1)) (kk : zw g X Post (pc + 1) zl (.int (x.toUInt32 >>> (z.toUInt32 &&& Int32.toUInt32 31)).toInt32 :: st) G k n) : zw g X Post pc zl (.int z :: .int x :: st) G k n := by
  obtain ⟨p, e, R, s, m, args, below, meth, c, A, nL⟩ := X
  intro H locs L hR hS hL hk hn
  exact lv_iushr hX.ex hX.cd hd rfl (kk H locs L hR hS hL hk hn)
theorem zr_idiv (hX : zOK g X cc y ret tb nl d mc ms) {x z : Int32} (hy : ¬ z = 0) (hd : decode cc pc = .ok (.idiv, 1)) (kk : zw g X Post (pc + 1) zl (.int (x / z) :: st) G k n) : zw g X Post pc zl (.int z :: .int x :: st) G k n := by
  obtain ⟨p, e, R, s, m, args, below, meth, c, A, nL⟩ := X
  intro H locs L hR hS hL hk hn
  exact lv_idiv hX.ex hX.cd hd hy (kk H locs L hR hS hL hk hn)
theorem zr_irem (hX : zOK g X cc y ret tb nl d mc ms) {x z : Int32} (hy : ¬ z = 0) (hd : decode cc pc = .ok (.irem, 1)) (kk : zw g X Post (pc + 1) zl (.int (x - x / z * z) :: st) G k n) : zw g X Post pc zl (.int z :: .int x :: st) G k n := by
  obtain ⟨p, e, R, s, m, args, below, meth, c, A, nL⟩ := X
  intro H locs L hR hS hL hk hn
  exact lv_irem hX.ex hX.cd hd hy (kk H locs L hR hS hL hk hn)
theorem zr_lor (hX : zOK g X cc y ret tb nl d mc ms) {x z : Int64} (hd : decode cc pc = .ok (.lor, 1)) (kk : zw g X Post (pc + 1) zl (.long (x ||| z) :: st) G k n) : zw g X Post pc zl (.long z :: .long x :: st) G k n := by
  obtain ⟨p, e, R, s, m, args, below, meth, c, A, nL⟩ := X
  intro H locs L hR hS hL hk hn
  exact lv_lor hX.ex hX.cd hd (kk H locs L hR hS hL hk hn)
theorem zr_lshl (hX : zOK g X cc y ret tb nl d mc ms) {x : Int64} {z : Int32} (hd : decode cc pc = .ok (.lshl, 1)) (kk : zw g X Post (pc + 1) zl (.long (x <<< (z.toInt64 &&& 63)) :: st) G k n) : zw g X Post pc zl (.int z :: .long x :: st) G k n := by
  obtain ⟨p, e, R, s, m, args, below, meth, c, A, nL⟩ := X
  intro H locs L hR hS hL hk hn
  exact lv_lshl hX.ex hX.cd hd rfl (kk H locs L hR hS hL hk hn)
theorem zr_lshr (hX : zOK g X cc y ret tb nl d mc ms) {x : Int64} {z : Int32} (hd : decode cc pc = .ok (.lshr, 1)) (kk : zw g X Post (pc + 1) zl (.long (x >>> (z.toInt64 &&& 63)) :: st) G k n) : zw g X Post pc zl (.int z :: .long x :: st) G k n := by
  obtain ⟨p, e, R, s, m, args, below, meth, c, A, nL⟩ := X
  intro H locs L hR hS hL hk hn
  exact lv_lshr hX.ex hX.cd hd rfl (kk H locs L hR hS hL hk hn)
theorem zr_i2l (hX : zOK g X cc y ret tb nl d mc ms) {x : Int32} (hd : decode cc pc = .ok (.i2l, 1)) (kk : zw g X Post (pc + 1) zl (.long x.toInt64 :: st) G k n) : zw g X Post pc zl (.int x :: st) G k n := by
  obtain ⟨p, e, R, s, m, args, below, meth, c, A, nL⟩ := X
  intro H locs L hR hS hL hk hn
  exact lv_i2l hX.ex hX.cd hd rfl (kk H locs L hR hS hL hk hn)
theorem zr_l2i (hX : zOK g X cc y ret tb nl d mc ms) {x : Int64} (hd : decode cc pc = .ok (.l2i, 1)) (kk : zw g X Post (pc + 1) zl (.int x.toInt32 :: st) G k n) : zw g X Post pc zl (.long x :: st) G k n := by
  obtain ⟨p, e, R, s, m, args, below, meth, c, A, nL⟩ := X
  intro H locs L hR hS hL hk hn
  exact lv_l2i hX.ex hX.cd hd rfl (kk H locs L hR hS hL hk hn)
theorem zr_lcmp (hX : zOK g X cc y ret tb nl d mc ms) {x z : Int64} (hd : decode cc pc = .ok (.lcmp, 1)) (kk : zw g X Post (pc + 1) zl (.int (lg_cmp x z) :: st) G k n) : zw g X Post pc zl (.long z :: .long x :: st) G k n := by
  obtain ⟨p, e, R, s, m, args, below, meth, c, A, nL⟩ := X
  intro H locs L hR hS hL hk hn
  exact W.lcmp hX.ex hX.cd hd (kk H locs L hR hS hL hk hn)
theorem zr_dup (hX : zOK g X cc y ret tb nl d mc ms) {v : Value} (hv : v.category = 1) (hd : decode cc pc = .ok (.dup, 1)) (kk : zw g X Post (pc + 1) zl (v :: v :: st) G k n) : zw g X Post pc zl (v :: st) G k n := by
  obtain ⟨p, e, R, s, m, args, below, meth, c, A, nL⟩ := X
  intro H locs L hR hS hL hk hn
  exact lv_dup hX.ex hX.cd hd hv (kk H locs L hR hS hL hk hn)
theorem zr_dup2 (hX : zOK g X cc y ret tb nl d mc ms) {v w : Value} (hv : v.category = 1) (hw : w.category = 1) (hd : decode cc pc = .ok (.dup2, 1)) (kk : zw g X Post (pc + 1) zl (v :: w :: v :: w :: st) G k n) : zw g X Post pc zl (v :: w :: st) G k n := by
  obtain ⟨p, e, R, s, m, args, below, meth, c, A, nL⟩ := X
  intro H locs L hR hS hL hk hn
  exact lv_dup2_11 hX.ex hX.cd hd hv hw (kk H locs L hR hS hL hk hn)
theorem zr_if_eq (hX : zOK g X cc y ret tb nl d mc ms) {x : Int32} {off : Int} {tgt : Nat} (hd : decode cc pc = .ok (.ifCond .eq off, 3)) (ht : (pc : Int) + off = (tgt : Int)) (kt : x = 0 → zw g X Post tgt zl st G k n) (kf : ¬ x = 0 → zw g X Post (pc + 3) zl st G k n) : zw g X Post pc zl (.int x :: st) G k n := by
  obtain ⟨p, e, R, s, m, args, below, meth, c, A, nL⟩ := X
  intro H locs L hR hS hL hk hn
  exact lv_if_eq hX.ex hX.cd hd ht (fun h => kt h H locs L hR hS hL hk hn) (fun h => kf h H locs L hR hS hL hk hn)
theorem zr_if_ne (hX : zOK g X cc y ret tb nl d mc ms) {x : Int32} {off : Int} {tgt : Nat} (hd : decode cc pc = .ok (.ifCond .ne off, 3)) (ht : (pc : Int) + off = (tgt : Int)) (kt : ¬ x = 0 → zw g X Post tgt zl st G k n) (kf : x = 0 → zw g X Post (pc + 3) zl st G k n) : zw g X Post pc zl (.int x :: st) G k n := by
  obtain ⟨p, e, R, s, m, args, below, meth, c, A, nL⟩ := X
  intro H locs L hR hS hL hk hn
  exact lv_if_ne hX.ex hX.cd hd ht (fun h => kt h H locs L hR hS hL hk hn) (fun h => kf h H locs L hR hS hL hk hn)
theorem zr_if_lt (hX : zOK g X cc y ret tb nl d mc ms) {x : Int32} {off : Int} {tgt : Nat} (hd : decode cc pc = .ok (.ifCond .lt off, 3)) (ht : (pc : Int) + off = (tgt : Int)) (kt : x < 0 → zw g X Post tgt zl st G k n) (kf : ¬ x < 0 → zw g X Post (pc + 3) zl st G k n) : zw g X Post pc zl (.int x :: st) G k n := by
  obtain ⟨p, e, R, s, m, args, below, meth, c, A, nL⟩ := X
  intro H locs L hR hS hL hk hn
  exact lv_if_lt hX.ex hX.cd hd ht (fun h => kt h H locs L hR hS hL hk hn) (fun h => kf h H locs L hR hS hL hk hn)
theorem zr_if_ge (hX : zOK g X cc y ret tb nl d mc ms) {x : Int32} {off : Int} {tgt : Nat} (hd : decode cc pc = .ok (.ifCond .ge off, 3)) (ht : (pc : Int) + off = (tgt : Int)) (kt : 0 ≤ x → zw g X Post tgt zl st G k n) (kf : ¬ 0 ≤ x → zw g X Post (pc + 3) zl st G k n) : zw g X Post pc zl (.int x :: st) G k n := by
  obtain ⟨p, e, R, s, m, args, below, meth, c, A, nL⟩ := X
  intro H locs L hR hS hL hk hn
  exact lv_if_ge hX.ex hX.cd hd ht (fun h => kt h H locs L hR hS hL hk hn) (fun h => kf h H locs L hR hS hL hk hn)
theorem zr_if_gt (hX : zOK g X cc y ret tb nl d mc ms) {x : Int32} {off : Int} {tgt : Nat} (hd : decode cc pc = .ok (.ifCond .gt off, 3)) (ht : (pc : Int) + off = (tgt : Int)) (kt : 0 < x → zw g X Post tgt zl st G k n) (kf : ¬ 0 < x → zw g X Post (pc + 3) zl st G k n) : zw g X Post pc zl (.int x :: st) G k n := by
  obtain ⟨p, e, R, s, m, args, below, meth, c, A, nL⟩ := X
  intro H locs L hR hS hL hk hn
  exact lv_if_gt hX.ex hX.cd hd ht (fun h => kt h H locs L hR hS hL hk hn) (fun h => kf h H locs L hR hS hL hk hn)
theorem zr_if_le (hX : zOK g X cc y ret tb nl d mc ms) {x : Int32} {off : Int} {tgt : Nat} (hd : decode cc pc = .ok (.ifCond .le off, 3)) (ht : (pc : Int) + off = (tgt : Int)) (kt : x ≤ 0 → zw g X Post tgt zl st G k n) (kf : ¬ x ≤ 0 → zw g X Post (pc + 3) zl st G k n) : zw g X Post pc zl (.int x :: st) G k n := by
  obtain ⟨p, e, R, s, m, args, below, meth, c, A, nL⟩ := X
  intro H locs L hR hS hL hk hn
  exact lv_if_le hX.ex hX.cd hd ht (fun h => kt h H locs L hR hS hL hk hn) (fun h => kf h H locs L hR hS hL hk hn)
theorem zr_icmp_eq (hX : zOK g X cc y ret tb nl d mc ms) {x z : Int32} {off : Int} {tgt : Nat} (hd : decode cc pc = .ok (.if_icmp .eq off, 3)) (ht : (pc : Int) + off = (tgt : Int)) (kt : x = z → zw g X Post tgt zl st G k n) (kf : ¬ x = z → zw g X Post (pc + 3) zl st G k n) : zw g X Post pc zl (.int z :: .int x :: st) G k n := by
  obtain ⟨p, e, R, s, m, args, below, meth, c, A, nL⟩ := X
  intro H locs L hR hS hL hk hn
  exact lv_icmp_eq hX.ex hX.cd hd ht (fun h => kt h H locs L hR hS hL hk hn) (fun h => kf h H locs L hR hS hL hk hn)
theorem zr_icmp_ne (hX : zOK g X cc y ret tb nl d mc ms) {x z : Int32} {off : Int} {tgt : Nat} (hd : decode cc pc = .ok (.if_icmp .ne off, 3)) (ht : (pc : Int) + off = (tgt : Int)) (kt : ¬ x = z → zw g X Post tgt zl st G k n) (kf : x = z → zw g X Post (pc + 3) zl st G k n) : zw g X Post pc zl (.int z :: .int x :: st) G k n := by
  obtain ⟨p, e, R, s, m, args, below, meth, c, A, nL⟩ := X
  intro H locs L hR hS hL hk hn
  exact lv_icmp_ne hX.ex hX.cd hd ht (fun h => kt h H locs L hR hS hL hk hn) (fun h => kf h H locs L hR hS hL hk hn)
theorem zr_icmp_lt (hX : zOK g X cc y ret tb nl d mc ms) {x z : Int32} {off : Int} {tgt : Nat} (hd : decode cc pc = .ok (.if_icmp .lt off, 3)) (ht : (pc : Int) + off = (tgt : Int)) (kt : x < z → zw g X Post tgt zl st G k n) (kf : ¬ x < z → zw g X Post (pc + 3) zl st G k n) : zw g X Post pc zl (.int z :: .int x :: st) G k n := by
  obtain ⟨p, e, R, s, m, args, below, meth, c, A, nL⟩ := X
  intro H locs L hR hS hL hk hn
  exact lv_icmp_lt hX.ex hX.cd hd ht (fun h => kt h H locs L hR hS hL hk hn) (fun h => kf h H locs L hR hS hL hk hn)
theorem zr_icmp_ge (hX : zOK g X cc y ret tb nl d mc ms) {x z : Int32} {off : Int} {tgt : Nat} (hd : decode cc pc = .ok (.if_icmp .ge off, 3)) (ht : (pc : Int) + off = (tgt : Int)) (kt : z ≤ x → zw g X Post tgt zl st G k n) (kf : ¬ z ≤ x → zw g X Post (pc + 3) zl st G k n) : zw g X Post pc zl (.int z :: .int x :: st) G k n := by
  obtain ⟨p, e, R, s, m, args, below, meth, c, A, nL⟩ := X
  intro H locs L hR hS hL hk hn
  exact lv_icmp_ge hX.ex hX.cd hd ht (fun h => kt h H locs L hR hS hL hk hn) (fun h => kf h H locs L hR hS hL hk hn)
theorem zr_icmp_gt (hX : zOK g X cc y ret tb nl d mc ms) {x z : Int32} {off : Int} {tgt : Nat} (hd : decode cc pc = .ok (.if_icmp .gt off, 3)) (ht : (pc : Int) + off = (tgt : Int)) (kt : z < x → zw g X Post tgt zl st G k n) (kf : ¬ z < x → zw g X Post (pc + 3) zl st G k n) : zw g X Post pc zl (.int z :: .int x :: st) G k n := by
  obtain ⟨p, e, R, s, m, args, below, meth, c, A, nL⟩ := X
  intro H locs L hR hS hL hk hn
  exact lv_icmp_gt hX.ex hX.cd hd ht (fun h => kt h H locs L hR hS hL hk hn) (fun h => kf h H locs L hR hS hL hk hn)
theorem zr_icmp_le (hX : zOK g X cc y ret tb nl d mc ms) {x z : Int32} {off : Int} {tgt : Nat} (hd : decode cc pc = .ok (.if_icmp .le off, 3)) (ht : (pc : Int) + off = (tgt : Int)) (kt : x ≤ z → zw g X Post tgt zl st G k n) (kf : ¬ x ≤ z → zw g X Post (pc + 3) zl st G k n) : zw g X Post pc zl (.int z :: .int x :: st) G k n := by
  obtain ⟨p, e, R, s, m, args, below, meth, c, A, nL⟩ := X
  intro H locs L hR hS hL hk hn
  exact lv_icmp_le hX.ex hX.cd hd ht (fun h => kt h H locs L hR hS hL hk hn) (fun h => kf h H locs L hR hS hL hk hn)
theorem zr_goto (hX : zOK g X cc y ret tb nl d mc ms)  {off : Int} {tgt : Nat} (ht : (pc : Int) + off = (tgt : Int)) (hd : decode cc pc = .ok (.goto off, 3)) (kk : zw g X Post tgt zl st G k n) : zw g X Post pc zl st G k n := by
  obtain ⟨p, e, R, s, m, args, below, meth, c, A, nL⟩ := X
  intro H locs L hR hS hL hk hn
  exact lv_goto hX.ex hX.cd hd ht (kk H locs L hR hS hL hk hn)
theorem zr_ifnonnull (hX : zOK g X cc y ret tb nl d mc ms) {x : Nat} {off : Int} {tgt : Nat} (ht : (pc : Int) + off = (tgt : Int)) (hd : decode cc pc = .ok (.ifnonnull off, 3)) (kk : zw g X Post tgt zl st G k n) : zw g X Post pc zl (.ref x :: st) G k n := by
  obtain ⟨p, e, R, s, m, args, below, meth, c, A, nL⟩ := X
  intro H locs L hR hS hL hk hn
  exact lv_ifnonnull hX.ex hX.cd hd ht (kk H locs L hR hS hL hk hn)
theorem zr_ifnull (hX : zOK g X cc y ret tb nl d mc ms) {x : Nat} {off : Int} (hd : decode cc pc = .ok (.ifnull off, 3)) (kk : zw g X Post (pc + 3) zl st G k n) : zw g X Post pc zl (.ref x :: st) G k n := by
  obtain ⟨p, e, R, s, m, args, below, meth, c, A, nL⟩ := X
  intro H locs L hR hS hL hk hn
  exact lv_ifnull hX.ex hX.cd hd (kk H locs L hR hS hL hk hn)
theorem zr_ifnullN (hX : zOK g X cc y ret tb nl d mc ms)  {off : Int} {tgt : Nat} (ht : (pc : Int) + off = (tgt : Int)) (hd : decode cc pc = .ok (.ifnull off, 3)) (kk : zw g X Post tgt zl st G k n) : zw g X Post pc zl (.null :: st) G k n := by
  obtain ⟨p, e, R, s, m, args, below, meth, c, A, nL⟩ := X
  intro H locs L hR hS hL hk hn
  exact lv_ifnullN hX.ex hX.cd hd ht (kk H locs L hR hS hL hk hn)
theorem zr_ifnonnullN (hX : zOK g X cc y ret tb nl d mc ms)  {off : Int} (hd : decode cc pc = .ok (.ifnonnull off, 3)) (kk : zw g X Post (pc + 3) zl st G k n) : zw g X Post pc zl (.null :: st) G k n := by
  obtain ⟨p, e, R, s, m, args, below, meth, c, A, nL⟩ := X
  intro H locs L hR hS hL hk hn
  exact lv_ifnonnullN hX.ex hX.cd hd (kk H locs L hR hS hL hk hn)
theorem zr_tabOut (hX : zOK g X cc y ret tb nl d mc ms) {dflt lo hi : Int} {offs : Array Int} {len : Nat} {x : Int32} {tgt : Nat} (hd : decode cc pc = .ok (.tableswitch dflt lo hi offs, len)) (h : x.toInt < lo ∨ hi < x.toInt) (ht : (pc : Int) + dflt = (tgt : Int)) (kk : zw g X Post tgt zl st G k n) : zw g X Post pc zl (.int x :: st) G k n := by
  obtain ⟨p, e, R, s, m, args, below, meth, c, A, nL⟩ := X
  intro H locs L hR hS hL hk hn
  exact lv_tableOut hX.ex hX.cd hd h ht (kk H locs L hR hS hL hk hn)
theorem zr_tabIn (hX : zOK g X cc y ret tb nl d mc ms) {dflt lo hi : Int} {offs : Array Int} {len : Nat} {x : Int32} {off : Int} {tgt : Nat} (hd : decode cc pc = .ok (.tableswitch dflt lo hi offs, len)) (h1 : ¬ x.toInt < lo) (h2 : ¬ hi < x.toInt) (ho : offs[(x.toInt - lo).toNat]? = some off) (ht : (pc : Int) + off = (tgt : Int)) (kk : zw g X Post tgt zl st G k n) : zw g X Post pc zl (.int x :: st) G k n := by
  obtain ⟨p, e, R, s, m, args, below, meth, c, A, nL⟩ := X
  intro H locs L hR hS hL hk hn
  exact lv_tableIn hX.ex hX.cd hd h1 h2 ho ht (kk H locs L hR hS hL hk hn)
theorem zr_look (hX : zOK g X cc y ret tb nl d mc ms) {dflt : Int} {ps : Array (Int × Int)} {len : Nat} {x : Int32} {off : Int} {tgt : Nat} (hd : decode cc pc = .ok (.lookupswitch dflt ps, len)) (hp : (ps.toList.zip (ps.toList.drop 1)).all (fun (a, next) => a.1 < next.1) = true) (ho : Op.lookupswitch.offset ps.toList dflt x.toInt = off) (ht : (pc : Int) + off = (tgt : Int)) (kk : zw g X Post tgt zl st G k n) : zw g X Post pc zl (.int x :: st) G k n := by
  obtain ⟨p, e, R, s, m, args, below, meth, c, A, nL⟩ := X
  intro H locs L hR hS hL hk hn
  exact lv_lookup hX.ex hX.cd hd hp ho ht (kk H locs L hR hS hL hk hn)
end ZR
end
section
/-! rows that read and write the heap -/
theorem u_ws_good {C : String} {T : u_T} {N : Nat} {w : Cond} (h : w ∈ u_ws C T N) : (w.onTables && w.keeps) = true := by
  obtain ⟨k, -, rfl⟩ := List.mem_map.mp h
  unfold u_lay
  split <;> rfl
/-- class ci of zcl: its name, fields, how many, their types; what the tables say of it -/
def zCl (ci : Nat) (C : String) (T : u_T) (N : Nat) (ty : Nat → FieldType) : Prop := zcl[ci]? = some (C, T, N) ∧ (∀ w ∈ u_ws C T N, w ∈ zTW) ∧ (∀ k, k < N → parseFieldDescriptor (T k).2.2.1 = some (ty k)) ∧ (∀ a, a < N → ∀ b, b < N → a ≠ b → (T a).2.1 ≠ (T b).2.1)
section ZH
variable {g : zGt} {X : zX} {cc : ByteArray} {y : MethodName} {ret : Option FieldType} {tb : List (Nat × Nat × Nat × Nat)} {nl d mc ms : Nat} {Post : zRes → zG → Prop} {pc : Nat} {zl : List (Option Value)} {st : List Value} {G : zG} {k n : Nat}
theorem zr_get (hX : zOK g X cc y ret tb nl d mc ms) {ci N a idx : Nat} {C : String} {T : u_T} {ty : Nat → FieldType} {fs : List Value} {v : Value} (hC : zCl ci C T N ty) (j : Nat) (hj : j < N) (hw : Cond.fieldLink y.cls idx C (T j).2.1 (T j).2.2.1 ∈ zTW) (ho : (T j).1 = C) (hG : G a = some (zO ci fs)) (hv : fs[j]? = some v) (hd : decode cc pc = .ok (.getfield idx, 3))
    (kk : zw g X Post (pc + 3) zl (v :: st) G k n) : zw g X Post pc zl (.ref a :: st) G k n := by
  obtain ⟨p, e, R, s, m, args, below, meth, c, A, nL⟩ := X
  intro H locs L hR hS hL hk hn
  obtain ⟨ws, h1, h2, h3, h4⟩ := hR
  obtain ⟨q, hq⟩ := h3 a _ hG
  exact va_get (D := zD g) (Ts := u_ws C T N) hX.ex hX.cd (fun w h => hX.wk (hC.2.1 w h) (u_ws_good h)) (fun w h => h) hX.ow hX.K h1 q hq hC.1 j hj (hX.wk hw rfl) (by rw [ho]; exact fun _ h => h) hv hd (kk H locs L ⟨ws, h1, h2, h3, h4⟩ hS hL hk hn)
theorem zr_put (hX : zOK g X cc y ret tb nl d mc ms) {ci N a idx : Nat} {C : String} {T : u_T} {ty : Nat → FieldType} {fs : List Value} {v : Value} (hC : zCl ci C T N ty) (j : Nat) (hj : j < N) (hw : Cond.fieldLink y.cls idx C (T j).2.1 (T j).2.2.1 ∈ zTW) (ho : (T j).1 = C) (hf : (T j).2.2.2 = false) (hn1 : narrow (ty j) v = v) (hn2 : fits (ty j) v = true) (hl : j < fs.length) (hG : G a = some (zO ci fs)) (hd : decode cc pc = .ok (.putfield idx, 3))
    (kk : zw g X Post (pc + 3) zl st (zput G a (zO ci (fs.set j v))) k n) : zw g X Post pc zl (v :: .ref a :: st) G k n := by
  obtain ⟨p, e, R, s, m, args, below, meth, c, A, nL⟩ := X
  intro H locs L hR hS hL hk hn
  obtain ⟨ws, h1, h2, h3, h4⟩ := hR
  obtain ⟨q, hq⟩ := h3 a _ hG
  exact va_put (D := zD g) (Ts := u_ws C T N) hX.ex hX.cd (fun w h => hX.wk (hC.2.1 w h) (u_ws_good h)) (fun w h => h) ty hC.2.2.1 hC.2.2.2 hX.ow hX.K h1 h2 hS q hq hC.1 j hj (hX.wk hw rfl) (by rw [ho]; exact fun _ h => h) hf (hC.2.2.1 j hj) hn1 hn2 hl hd
    (fun H1 locs1 p1 p2 p3 => kk H1 locs1 L (zRep_set (c' := zO ci (fs.set j v)) h2 h3 h4 hq p1 p2) p3 hL hk hn)
theorem zr_putF (hX : zOK g X cc y ret tb nl d mc ms) {ci N a idx : Nat} {C : String} {T : u_T} {ty : Nat → FieldType} {fs : List Value} {v : Value} (hC : zCl ci C T N ty) (j : Nat) (hj : j < N) (hw : Cond.fieldLink y.cls idx C (T j).2.1 (T j).2.2.1 ∈ zTW) (ho : (T j).1 = C) (hf : (T j).2.2.2 = true) (hi : y.name = "<init>") (hoo : C = y.cls) (hn1 : narrow (ty j) v = v) (hn2 : fits (ty j) v = true) (hl : j < fs.length) (hG : G a = some (zO ci fs)) (hd : decode cc pc = .ok (.putfield idx, 3))
    (kk : zw g X Post (pc + 3) zl st (zput G a (zO ci (fs.set j v))) k n) : zw g X Post pc zl (v :: .ref a :: st) G k n := by
  obtain ⟨p, e, R, s, m, args, below, meth, c, A, nL⟩ := X
  intro H locs L hR hS hL hk hn
  obtain ⟨ws, h1, h2, h3, h4⟩ := hR
  obtain ⟨q, hq⟩ := h3 a _ hG
  exact va_putF (D := zD g) (Ts := u_ws C T N) hX.ex hX.cd (fun w h => hX.wk (hC.2.1 w h) (u_ws_good h)) (fun w h => h) ty hC.2.2.1 hC.2.2.2 hX.ow hX.K h1 h2 hS q hq hC.1 j hj (hX.wk hw rfl) (by rw [ho]; exact fun _ h => h) hf (hX.nm.trans hi) (ho.trans hoo) (hC.2.2.1 j hj) hn1 hn2 hl hd
    (fun H1 locs1 p1 p2 p3 => kk H1 locs1 L (zRep_set (c' := zO ci (fs.set j v)) h2 h3 h4 hq p1 p2) p3 hL hk hn)
theorem zr_iald (hX : zOK g X cc y ret tb nl d mc ms) {a N : Nat} {f : Nat → Int32} {i : Int32} (hG : G a = some (zI N f)) (hi : vp_in i N) (hd : decode cc pc = .ok (.iaload, 1)) (kk : zw g X Post (pc + 1) zl (.int (f i.toNatClampNeg) :: st) G k n) : zw g X Post pc zl (.int i :: .ref a :: st) G k n := by
  obtain ⟨p, e, R, s, m, args, below, meth, c, A, nL⟩ := X
  intro H locs L hR hS hL hk hn
  obtain ⟨ws, h1, h2, h3, h4⟩ := hR
  obtain ⟨q, hq⟩ := h3 a _ hG
  exact va_iald (tys := zty (ztc g)) hX.ex hX.cd hX.K h1 q 0 hq rfl hi hd (kk H locs L ⟨ws, h1, h2, h3, h4⟩ hS hL hk hn)
theorem zr_zald (hX : zOK g X cc y ret tb nl d mc ms) {a N : Nat} {f : Nat → Int32} {i : Int32} (hG : G a = some (zB N f)) (hi : vp_in i N) (hd : decode cc pc = .ok (.baload, 1)) (kk : zw g X Post (pc + 1) zl (.int (f i.toNatClampNeg) :: st) G k n) : zw g X Post pc zl (.int i :: .ref a :: st) G k n := by
  obtain ⟨p, e, R, s, m, args, below, meth, c, A, nL⟩ := X
  intro H locs L hR hS hL hk hn
  obtain ⟨ws, h1, h2, h3, h4⟩ := hR
  obtain ⟨q, hq⟩ := h3 a _ hG
  exact va_zald (tys := zty (ztc g)) hX.ex hX.cd hX.K h1 q 1 hq rfl hi hd (kk H locs L ⟨ws, h1, h2, h3, h4⟩ hS hL hk hn)
theorem zr_lald (hX : zOK g X cc y ret tb nl d mc ms) {a N : Nat} {f : Nat → Int64} {i : Int32} (hG : G a = some (zJ N f)) (hi : vp_in i N) (hd : decode cc pc = .ok (.laload, 1)) (kk : zw g X Post (pc + 1) zl (.long (f i.toNatClampNeg) :: st) G k n) : zw g X Post pc zl (.int i :: .ref a :: st) G k n := by
  obtain ⟨p, e, R, s, m, args, below, meth, c, A, nL⟩ := X
  intro H locs L hR hS hL hk hn
  obtain ⟨ws, h1, h2, h3, h4⟩ := hR
  obtain ⟨q, hq⟩ := h3 a _ hG
  exact va_lald (tys := zty (ztc g)) hX.ex hX.cd hX.K h1 q 2 hq rfl hi hd (kk H locs L ⟨ws, h1, h2, h3, h4⟩ hS hL hk hn)
/-- an array of references: t its kind (3, 4, 5) -/
theorem zr_aald (hX : zOK g X cc y ret tb nl d mc ms) {a t N : Nat} {C : String} {f : Nat → Option Nat} {i : Int32} (ht : (zty (ztc g))[t]? = some (ztc g t, .object C)) (hG : G a = some (zR t N f)) (hi : vp_in i N) (hd : decode cc pc = .ok (.aaload, 1)) (kk : zw g X Post (pc + 1) zl (va_rf (f i.toNatClampNeg) :: st) G k n) : zw g X Post pc zl (.int i :: .ref a :: st) G k n := by
  obtain ⟨p, e, R, s, m, args, below, meth, c, A, nL⟩ := X
  intro H locs L hR hS hL hk hn
  obtain ⟨ws, h1, h2, h3, h4⟩ := hR
  obtain ⟨q, hq⟩ := h3 a _ hG
  exact va_aldq (tys := zty (ztc g)) hX.ex hX.cd hX.K h1 q t hq ht hi hd (kk H locs L ⟨ws, h1, h2, h3, h4⟩ hS hL hk hn)
theorem zr_iast (hX : zOK g X cc y ret tb nl d mc ms) {a N : Nat} {f : Nat → Int32} {i x : Int32} (hG : G a = some (zI N f)) (hi : vp_in i N) (hd : decode cc pc = .ok (.iastore, 1)) (kk : zw g X Post (pc + 1) zl st (zput G a (zI N (upd f i.toNatClampNeg x))) k n) : zw g X Post pc zl (.int x :: .int i :: .ref a :: st) G k n := by
  obtain ⟨p, e, R, s, m, args, below, meth, c, A, nL⟩ := X
  intro H locs L hR hS hL hk hn
  obtain ⟨ws, h1, h2, h3, h4⟩ := hR
  obtain ⟨q, hq⟩ := h3 a _ hG
  exact va_iast (tys := zty (ztc g)) hX.ex hX.cd hX.K h1 h2 hS q 0 hq rfl hi hd (fun H1 locs1 p1 p2 p3 => kk H1 locs1 L (zRep_set (c' := zI N (upd f i.toNatClampNeg x)) h2 h3 h4 hq p1 p2) p3 hL hk hn)
theorem zr_zast (hX : zOK g X cc y ret tb nl d mc ms) {a N : Nat} {f : Nat → Int32} {i x : Int32} (hG : G a = some (zB N f)) (hi : vp_in i N) (hd : decode cc pc = .ok (.bastore, 1)) (kk : zw g X Post (pc + 1) zl st (zput G a (zB N (upd f i.toNatClampNeg (vp_nar .boolean x)))) k n) : zw g X Post pc zl (.int x :: .int i :: .ref a :: st) G k n := by
  obtain ⟨p, e, R, s, m, args, below, meth, c, A, nL⟩ := X
  intro H locs L hR hS hL hk hn
  obtain ⟨ws, h1, h2, h3, h4⟩ := hR
  obtain ⟨q, hq⟩ := h3 a _ hG
  exact va_zast (tys := zty (ztc g)) hX.ex hX.cd hX.K h1 h2 hS q 1 hq rfl hi hd (fun H1 locs1 p1 p2 p3 => kk H1 locs1 L (zRep_set (c' := zB N (upd f i.toNatClampNeg (vp_nar .boolean x))) h2 h3 h4 hq p1 p2) p3 hL hk hn)
theorem zr_last (hX : zOK g X cc y ret tb nl d mc ms) {a N : Nat} {f : Nat → Int64} {i : Int32} {x : Int64} (hG : G a = some (zJ N f)) (hi : vp_in i N) (hd : decode cc pc = .ok (.lastore, 1)) (kk : zw g X Post (pc + 1) zl st (zput G a (zJ N (vp_updL f i.toNatClampNeg x))) k n) : zw g X Post pc zl (.long x :: .int i :: .ref a :: st) G k n := by
  obtain ⟨p, e, R, s, m, args, below, meth, c, A, nL⟩ := X
  intro H locs L hR hS hL hk hn
  obtain ⟨ws, h1, h2, h3, h4⟩ := hR
  obtain ⟨q, hq⟩ := h3 a _ hG
  exact va_last (tys := zty (ztc g)) hX.ex hX.cd hX.K h1 h2 hS q 2 hq rfl hi hd (fun H1 locs1 p1 p2 p3 => kk H1 locs1 L (zRep_set (c' := zJ N (vp_updL f i.toNatClampNeg x)) h2 h3 h4 hq p1 p2) p3 hL hk hn)
theorem zr_aast (hX : zOK g X cc y ret tb nl d mc ms) {a t N v ci M : Nat} {C : String} {T : u_T} {f : Nat → Option Nat} {vs : List Value} {i : Int32} (hc : zcl[ci]? = some (C, T, M)) (ht : (zty (ztc g))[t]? = some (ztc g t, .object C)) (hG : G a = some (zR t N f)) (hV : G v = some (zO ci vs)) (hi : vp_in i N) (hd : decode cc pc = .ok (.aastore, 1)) (kk : zw g X Post (pc + 1) zl st (zput G a (zR t N (va_up f i.toNatClampNeg (some v)))) k n) : zw g X Post pc zl (.ref v :: .int i :: .ref a :: st) G k n := by
  obtain ⟨p, e, R, s, m, args, below, meth, c, A, nL⟩ := X
  intro H locs L hR hS hL hk hn
  obtain ⟨ws, h1, h2, h3, h4⟩ := hR
  obtain ⟨q, hq⟩ := h3 a _ hG
  obtain ⟨q2, hq2⟩ := h3 v _ hV
  exact va_astq (tys := zty (ztc g)) hX.ex hX.cd hX.K h1 h2 hS q t q2 ci hq ht hq2 hc hi hd (fun H1 locs1 p1 p2 p3 => kk H1 locs1 L (zRep_set (c' := zR t N (va_up f i.toNatClampNeg (some v))) h2 h3 h4 hq p1 p2) p3 hL hk hn)
theorem zr_ilen (hX : zOK g X cc y ret tb nl d mc ms) {a N : Nat} {f : Nat → Int32} (hG : G a = some (zI N f)) (hd : decode cc pc = .ok (.arraylength, 1)) (kk : zw g X Post (pc + 1) zl (.int (Int32.ofNat N) :: st) G k n) : zw g X Post pc zl (.ref a :: st) G k n := by
  obtain ⟨p, e, R, s, m, args, below, meth, c, A, nL⟩ := X
  intro H locs L hR hS hL hk hn
  obtain ⟨ws, h1, h2, h3, h4⟩ := hR
  obtain ⟨q, hq⟩ := h3 a _ hG
  exact va_alen (tys := zty (ztc g)) hX.ex hX.cd hX.K h1 q 0 hq rfl rfl hd (kk H locs L ⟨ws, h1, h2, h3, h4⟩ hS hL hk hn)
theorem zr_llen (hX : zOK g X cc y ret tb nl d mc ms) {a N : Nat} {f : Nat → Int64} (hG : G a = some (zJ N f)) (hd : decode cc pc = .ok (.arraylength, 1)) (kk : zw g X Post (pc + 1) zl (.int (Int32.ofNat N) :: st) G k n) : zw g X Post pc zl (.ref a :: st) G k n := by
  obtain ⟨p, e, R, s, m, args, below, meth, c, A, nL⟩ := X
  intro H locs L hR hS hL hk hn
  obtain ⟨ws, h1, h2, h3, h4⟩ := hR
  obtain ⟨q, hq⟩ := h3 a _ hG
  exact va_alen (tys := zty (ztc g)) hX.ex hX.cd hX.K h1 q 2 hq rfl rfl hd (kk H locs L ⟨ws, h1, h2, h3, h4⟩ hS hL hk hn)
theorem zr_new (hX : zOK g X cc y ret tb nl d mc ms) {ci N idx : Nat} {C : String} {T : u_T} {ty : Nat → FieldType} {fs : List Value} (hC : zCl ci C T N ty) (hw1 : Cond.classLink y.cls idx C ∈ zTW) (hw2 : Cond.instantiable C N ∈ zTW) (hw3 : Cond.initialized C ∈ zTW) (hfs : ∀ j, j < N → defaultValue (ty j) = vp_V fs j) (hk1 : k + 1 ≤ mc) (hn1 : n + N ≤ ms) (hd : decode cc pc = .ok (.new idx, 3))
    (kk : ∀ q : Nat, G q = none → zw g X Post (pc + 3) zl (.ref q :: st) (zput G q (zO ci fs)) (k + 1) (n + N)) : zw g X Post pc zl st G k n := by
  obtain ⟨p, e, R, s, m, args, below, meth, c, A, nL⟩ := X
  intro H locs L hR hS hL hk hn
  obtain ⟨ws, h1, h2, h3, h4⟩ := hR
  have hrm := hX.rm
  have c1 : k + 1 ≤ R.cells := by rw [hrm]; exact hk1
  have c2 : n + N ≤ R.slots := by rw [hrm]; exact hn1
  exact va_new (D := zD g) (Ts := u_ws C T N) (tys := zty (ztc g)) hX.ex hX.cd (fun w h => hX.wk (hC.2.1 w h) (u_ws_good h)) (fun w h => h) ty hC.2.2.1 hX.ow (hX.wk hw1 rfl) (hX.wk hw2 rfl) (hX.wk hw3 rfl) hX.K h1 h2 hS hX.hA hC.1 hfs c1 c2 hd
    (fun q H1 p1 p2 p3 => by
      obtain ⟨g1, g2⟩ := zRep_push (c' := zO ci fs) h3 h4 p1 p2
      exact kk q g1 H1 locs L g2 p3 hL c1 c2)
theorem zr_newI (hX : zOK g X cc y ret tb nl d mc ms) {N : Nat} {i : Int32} (hw : Cond.arrayClass .int ∈ zTW) (hi : ¬ i < 0) (hN : i.toNatClampNeg = N) (hb : N * 4 ≤ 536870912) (hk1 : k + 1 ≤ mc) (hn1 : n + N ≤ ms) (hd : decode cc pc = .ok (.newarray .int, 2))
    (kk : ∀ q : Nat, G q = none → zw g X Post (pc + 2) zl (.ref q :: st) (zput G q (zI N (fun _ => 0))) (k + 1) (n + N)) : zw g X Post pc zl (.int i :: st) G k n := by
  obtain ⟨p, e, R, s, m, args, below, meth, c, A, nL⟩ := X
  intro H locs L hR hS hL hk hn
  obtain ⟨ws, h1, h2, h3, h4⟩ := hR
  have hrm := hX.rm
  have c1 : k + 1 ≤ R.cells := by rw [hrm]; exact hk1
  have c2 : n + N ≤ R.slots := by rw [hrm]; exact hn1
  refine va_newa (atype := .int) (D := zD g) (cl := zcl) (tys := zty (ztc g)) (ty := .int) (a0 := (N, .inl (fun _ => 0))) hX.ex hX.cd (hX.wd hw (Or.inr ⟨_, rfl⟩)) rfl hX.K h1 h2 hS hX.hA (fun cA => rfl) hi hN hb c1 c2 hd (fun q cA H1 pK p1 p2 p3 => ?_)
  have e1 : cA = ztc g 0 := by
    have r1 := (pK.2 6 (cA, .int) rfl).2
    have r2 := (pK.2 0 (ztc g 0, .int) rfl).2
    exact Option.some.inj (r1.symm.trans r2)
  subst e1
  obtain ⟨g1, g2⟩ := zRep_push (c' := zI N (fun _ => 0)) h3 h4 p1 p2
  exact kk q g1 H1 locs L g2 p3 hL c1 c2
theorem zr_newZ (hX : zOK g X cc y ret tb nl d mc ms) {N : Nat} {i : Int32} (hw : Cond.arrayClass .boolean ∈ zTW) (hi : ¬ i < 0) (hN : i.toNatClampNeg = N) (hb : N * 1 ≤ 536870912) (hk1 : k + 1 ≤ mc) (hn1 : n + N ≤ ms) (hd : decode cc pc = .ok (.newarray .boolean, 2))
    (kk : ∀ q : Nat, G q = none → zw g X Post (pc + 2) zl (.ref q :: st) (zput G q (zB N (fun _ => 0))) (k + 1) (n + N)) : zw g X Post pc zl (.int i :: st) G k n := by
  obtain ⟨p, e, R, s, m, args, below, meth, c, A, nL⟩ := X
  intro H locs L hR hS hL hk hn
  obtain ⟨ws, h1, h2, h3, h4⟩ := hR
  have hrm := hX.rm
  have c1 : k + 1 ≤ R.cells := by rw [hrm]; exact hk1
  have c2 : n + N ≤ R.slots := by rw [hrm]; exact hn1
  refine va_newa (atype := .boolean) (D := zD g) (cl := zcl) (tys := zty (ztc g)) (ty := .boolean) (a0 := (N, .inl (fun _ => 0))) hX.ex hX.cd (hX.wd hw (Or.inr ⟨_, rfl⟩)) rfl hX.K h1 h2 hS hX.hA (fun cA => rfl) hi hN hb c1 c2 hd (fun q cA H1 pK p1 p2 p3 => ?_)
  have e1 : cA = ztc g 1 := by
    have r1 := (pK.2 6 (cA, .boolean) rfl).2
    have r2 := (pK.2 1 (ztc g 1, .boolean) rfl).2
    exact Option.some.inj (r1.symm.trans r2)
  subst e1
  obtain ⟨g1, g2⟩ := zRep_push (c' := zB N (fun _ => 0)) h3 h4 p1 p2
  exact kk q g1 H1 locs L g2 p3 hL c1 c2
theorem zr_newJ (hX : zOK g X cc y ret tb nl d mc ms) {N : Nat} {i : Int32} (hw : Cond.arrayClass .long ∈ zTW) (hi : ¬ i < 0) (hN : i.toNatClampNeg = N) (hb : N * 8 ≤ 536870912) (hk1 : k + 1 ≤ mc) (hn1 : n + N ≤ ms) (hd : decode cc pc = .ok (.newarray .long, 2))
    (kk : ∀ q : Nat, G q = none → zw g X Post (pc + 2) zl (.ref q :: st) (zput G q (zJ N (fun _ => 0))) (k + 1) (n + N)) : zw g X Post pc zl (.int i :: st) G k n := by
  obtain ⟨p, e, R, s, m, args, below, meth, c, A, nL⟩ := X
  intro H locs L hR hS hL hk hn
  obtain ⟨ws, h1, h2, h3, h4⟩ := hR
  have hrm := hX.rm
  have c1 : k + 1 ≤ R.cells := by rw [hrm]; exact hk1
  have c2 : n + N ≤ R.slots := by rw [hrm]; exact hn1
  refine va_newa (atype := .long) (D := zD g) (cl := zcl) (tys := zty (ztc g)) (ty := .long) (a0 := (N, .inr (.inl (fun _ => 0)))) hX.ex hX.cd (hX.wd hw (Or.inr ⟨_, rfl⟩)) rfl hX.K h1 h2 hS hX.hA (fun cA => rfl) hi hN hb c1 c2 hd (fun q cA H1 pK p1 p2 p3 => ?_)
  have e1 : cA = ztc g 2 := by
    have r1 := (pK.2 6 (cA, .long) rfl).2
    have r2 := (pK.2 2 (ztc g 2, .long) rfl).2
    exact Option.some.inj (r1.symm.trans r2)
  subst e1
  obtain ⟨g1, g2⟩ := zRep_push (c' := zJ N (fun _ => 0)) h3 h4 p1 p2
  exact kk q g1 H1 locs L g2 p3 hL c1 c2
/-! returns -/
theorem zr_iret (hX : zOK g X cc y (some .int) tb nl d mc ms) {v : Int32} (hd : decode cc pc = .ok (.ireturn, 1)) (hp : Post (.inl (some (.int v))) G) : zw g X Post pc zl [.int v] G k n := by
  obtain ⟨p, e, R, s, m, args, below, meth, c, A, nL⟩ := X
  intro H locs L hR hS hL hk hn
  refine W.widen hk hn ?_
  intro T hT X
  obtain ⟨t, a1, o, b1, b2, b3, L9, b4, b5⟩ := W.iret (Qc := fun _ st o t => o = .returned (some (.int v)) ∧ t.heap = H) (free := A) hX.ex hX.cd hX.rt (fun t ht _ => ⟨rfl, ht⟩) hS.2.2 hd hX.lk T hT X
  exact ⟨t, a1, o, b1, b2, .inl (some (.int v)), G, L9, hp, by rw [b3.2]; exact hR, hS.F b3.2, b4.2.1, b4.2.2, b5, b3.1⟩
theorem zr_zret (hX : zOK g X cc y (some .boolean) tb nl d mc ms) {v : Int32} (hv : narrow .boolean (.int v) = .int v) (hd : decode cc pc = .ok (.ireturn, 1)) (hp : Post (.inl (some (.int v))) G) : zw g X Post pc zl [.int v] G k n := by
  obtain ⟨p, e, R, s, m, args, below, meth, c, A, nL⟩ := X
  intro H locs L hR hS hL hk hn
  refine W.widen hk hn ?_
  intro T hT X
  obtain ⟨t, a1, o, b1, b2, b3, L9, b4, b5⟩ := W.zret (Qc := fun _ st o t => o = .returned (some (.int v)) ∧ t.heap = H) (free := A) hX.ex hX.cd hX.rt hv (fun t ht _ => ⟨rfl, ht⟩) hS.2.2 hd hX.lk T hT X
  exact ⟨t, a1, o, b1, b2, .inl (some (.int v)), G, L9, hp, by rw [b3.2]; exact hR, hS.F b3.2, b4.2.1, b4.2.2, b5, b3.1⟩
theorem zr_lret (hX : zOK g X cc y (some .long) tb nl d mc ms) {v : Int64} (hd : decode cc pc = .ok (.lreturn, 1)) (hp : Post (.inl (some (.long v))) G) : zw g X Post pc zl [.long v] G k n := by
  obtain ⟨p, e, R, s, m, args, below, meth, c, A, nL⟩ := X
  intro H locs L hR hS hL hk hn
  refine W.widen hk hn ?_
  intro T hT X
  obtain ⟨t, a1, o, b1, b2, b3, L9, b4, b5⟩ := W.lret (Qc := fun _ st o t => o = .returned (some (.long v)) ∧ t.heap = H) (free := A) hX.ex hX.cd hX.rt (fun t ht _ => ⟨rfl, ht⟩) hS.2.2 hd hX.lk T hT X
  exact ⟨t, a1, o, b1, b2, .inl (some (.long v)), G, L9, hp, by rw [b3.2]; exact hR, hS.F b3.2, b4.2.1, b4.2.2, b5, b3.1⟩
theorem zr_vret (hX : zOK g X cc y none tb nl d mc ms) (hd : decode cc pc = .ok (.return_, 1)) (hp : Post (.inl none) G) : zw g X Post pc zl [] G k n := by
  obtain ⟨p, e, R, s, m, args, below, meth, c, A, nL⟩ := X
  intro H locs L hR hS hL hk hn
  refine W.widen hk hn ?_
  intro T hT X
  obtain ⟨t, a1, o, b1, b2, b3, L9, b4, b5⟩ := W.vret (Qc := fun _ st o t => o = .returned none ∧ t.heap = H) (free := A) hX.ex hX.cd hX.rt (fun t ht _ => ⟨rfl, ht⟩) hS.2.2 hd hX.lk T hT X
  exact ⟨t, a1, o, b1, b2, .inl none, G, L9, hp, by rw [b3.2]; exact hR, hS.F b3.2, b4.2.1, b4.2.2, b5, b3.1⟩
theorem zr_aret (hX : zOK g X cc y ret tb nl d mc ms) {rt : FieldType} (hrt : ret = some rt) (hro : (∃ n, rt = .object n) ∨ ∃ t, rt = .array t) {v : Value} (hv : v = .null ∨ ∃ a, v = .ref a) (hd : decode cc pc = .ok (.areturn, 1)) (hp : Post (.inl (some v)) G) : zw g X Post pc zl [v] G k n := by
  obtain ⟨p, e, R, s, m, args, below, meth, c, A, nL⟩ := X
  intro H locs L hR hS hL hk hn
  refine W.widen hk hn ?_
  intro T hT X
  obtain ⟨t, a1, o, b1, b2, b3, L9, b4, b5⟩ := W.aret (Qc := fun _ st o t => o = .returned (some v) ∧ t.heap = H) (free := A) hX.ex hX.cd (hX.rt.trans hrt) hro hv (fun t ht _ => ⟨rfl, ht⟩) hS.2.2 hd hX.lk T hT X
  exact ⟨t, a1, o, b1, b2, .inl (some v), G, L9, hp, by rw [b3.2]; exact hR, hS.F b3.2, b4.2.1, b4.2.2, b5, b3.1⟩
end ZH
end
section
/-! contracts and calls -/
def zcw (y : MethodName) (cc : ByteArray) (nl : Nat) (ret : Option FieldType) (tb : List (Nat × Nat × Nat × Nat)) : Cond := match tb with
  | [] => .code y cc nl ret
  | _ => .codeWith y cc nl ret tb
/-- method y, called with av on a heap that holds G: it returns or throws, as Post says; at most mc cells of ms slots are new; d deep -/
def zMet (g : zGt) (y : MethodName) (cc : ByteArray) (nl : Nat) (ret : Option FieldType) (tb : List (Nat × Nat × Nat × Nat)) (d mc ms : Nat) (av : List Value) (G : zG) (Post : zRes → zG → Prop) : Prop :=
  zGl g → ∀ sz : Nat, MetFree (zl0 g) y (headSpec [zcw y cc nl ret tb] (zrm d mc ms)) (fun v U => v = av.toArray ∧ U.heap.size = sz ∧ zRep (zD g) (ztc g) (zA g G sz) G U.heap ∧ zAft g U U.heap) (fun _ _ _ _ _ => True) (zQ g (zA g G sz) mc ms Post)
theorem zloc_entry (av : List Value) {n : Nat} (h : (lg_sl av).length ≤ n) : zloc ((lg_sl av ++ List.replicate (n - (lg_sl av).length) Slot.unset).toArray) n (zent av n) := by
  refine ⟨_, lv_entry av h, fun i v hi => ?_⟩
  have h1 := zarg_in av 0 i v (zlk_app _ _ _ _ hi)
  rw [Nat.zero_add] at h1
  exact h1
theorem zcw_spec {y : MethodName} {cc : ByteArray} {nl : Nat} {ret : Option FieldType} {tb : List (Nat × Nat × Nat × Nat)} {args : Array Value} {s : State} {m : MethodId} (hn : s.methodNamed? y = some m) (h : (zcw y cc nl ret tb).before args s = true) :
    ∃ meth c, s.vm.method? m = some meth ∧ meth.code = some c ∧ c.code = cc ∧ c.maxLocals = nl ∧ meth.sig.returnType = ret ∧ meth.locks = false ∧ c.exceptionTable.toList = tableOf tb ∧ parseMethodDescriptor y.desc = some meth.sig := by
  cases tb with
  | nil =>
    obtain ⟨meth, c, h1, h2, h3, h4, h5, h6, h7, h8⟩ := Cond.code_spec hn h
    refine ⟨meth, c, h1, h2, h3, h4, h5, h6, ?_, h8⟩
    rw [Array.isEmpty_iff.mp h7]
    rfl
  | cons a r =>
    obtain ⟨m9, meth, c, hn9, h1, h2, h3, h4, h6, h5, h7, h8⟩ := Cond.codeWith_spec h
    cases Option.some.inj (hn9.symm.trans hn)
    exact ⟨meth, c, h1, h2, h3, h4, h5, h7, by rw [← h6, table_eq], h8⟩
theorem zMet.of {g : zGt} {y : MethodName} {cc : ByteArray} {nl : Nat} {ret : Option FieldType} {tb : List (Nat × Nat × Nat × Nat)} {d mc ms : Nat} {av : List Value} {G : zG} {Post : zRes → zG → Prop} {zl : List (Option Value)} (hy : plainName y.cls = true) (hz : (lg_sl av).length ≤ nl) (hzl : zent av nl = zl)
    (body : ∀ X, zOK g X cc y ret tb nl d mc ms → zw g X Post 0 zl [] G 0 0) : zMet g y cc nl ret tb d mc ms av G Post := by
  subst hzl
  intro hg sz
  refine MetFree.of_bodyS (code := cc) (maxLocals := nl) (ret := ret) hy ?_ ?_
  · intro args s m h hn
    obtain ⟨meth, c, h1, h2, h3, h4, h5, h6, -, -⟩ := zcw_spec hn (atoms_spec (ws := [zcw y cc nl ret tb]) h _ List.mem_cons_self)
    exact ⟨meth, c, h1, h2, h3, h4, h5, h6⟩
  · intro p e s m args below meth c s₁ B hml hP _
    obtain ⟨rfl, hsz, hR, hA⟩ := hP
    subst hsz
    have hh0 : s₁.heap = s.heap := by rw [B.state]; rfl
    obtain ⟨meth9, c9, h1, h2, -, -, -, -, h7, -⟩ := zcw_spec B.named (atoms_spec (ws := [zcw y cc nl ret tb]) B.pre _ List.mem_cons_self)
    cases Option.some.inj (h1.symm.trans B.method)
    cases Option.some.inj (h2.symm.trans (Stand.of_body B).code)
    have hX : zOK g (p, e, zrm d mc ms, s, m, av.toArray, below, meth, c, zA g G s.heap.size, nl) cc y ret tb nl d mc ms :=
      ⟨hg, B.exec, B.bytes, hml, rfl, findClass_of_methodNamed B.named, (name_of_methodNamed B.named B.method).1, hA, fun q h => ⟨Or.inr h, Nat.le_trans hA.2.1 h⟩, fun q h => h.2, B.notSynchronized, B.returns, h7, rfl⟩
    have K := body _ hX s.heap [] _ hR va_S.rf (zloc_entry av hz) (Nat.zero_le _) (Nat.zero_le _)
    rw [lg_entry_eq]
    obtain ⟨t, a1, o, b1, b2, b3⟩ := K s₁ hh0 (Stand.of_body B)
    exact ⟨t, o, a1, b1, b2, b3⟩
theorem zAft.to {g : zGt} {U V : State} {H H1 : Heap} {A : Nat → Prop} (h : zAft g U H) (hW : U.WarmedH V.vm) (hA : ∀ q, A q → (zs0 g).heap.size ≤ q) (h1 : H.size ≤ H1.size) (h2 : ∀ q : Nat, q < H.size → ¬ A q → H1[q]? = H[q]?) : zAft g V H1 :=
  ⟨State.WarmedH.trans h.1 hW, Nat.le_trans h.2.1 h1, fun q hq => by rw [h2 q (Nat.lt_of_lt_of_le hq h.2.1) (fun z => by have := hA q z; omega)]; exact h.2.2 q hq⟩
/-- what a call of y does to the caller's walk -/
theorem zback {g : zGt} {p : Program} {e : Env} {R : Room} {s : State} {m : MethodId} {sargs : Array Value} {below : List Frame} {meth : Method} {c : Code} {U : State} {locs : List Loc} {k n : Nat}
    {y : MethodName} {cc : ByteArray} {nl : Nat} {ret : Option FieldType} {tb : List (Nat × Nat × Nat × Nat)} {d mc ms W9 : Nat} {av : List Value} {G : zG} {Post : zRes → zG → Prop}
    (hM : zMet g y cc nl ret tb d mc ms av G Post) (hg : zGl g) (X : Stand p (zl0 g) e R s m sargs below meth c U locs k n) {gf : JFrame} (hgm : gf.method = m) (hsize : gf.locals.size = c.maxLocals) {ig : Instr} {len : Nat} (hdg : decode c.code gf.pc = .ok (ig, len))
    (hW : 2 * gf.monitorRoom + (gf.stack.map fun v => v.category).sum ≤ W9) {mk : MethodId} (hn : U.methodNamed? y = some mk) (hcode : (zcw y cc nl ret tb).before av.toArray U = true) (hinit : (Cond.initialized y.cls).before av.toArray U = true)
    (hfr : d + 1 ≤ R.frames) (hlo : W9 + (nl + 11) + 64 * d ≤ R.locals) (hc1 : k + mc ≤ R.cells) (hs1 : n + ms ≤ R.slots) (hR : zRep (zD g) (ztc g) (zA g G U.heap.size) G U.heap) (hA : zAft g U U.heap) :
    ∃ (r : zRes) (G1 : zG) (B : State) (L : List Loc), Post r G1 ∧ zRep (zD g) (ztc g) (zA g G U.heap.size) G1 B.heap ∧ U.heap.size ≤ B.heap.size ∧ (∀ q : Nat, q < U.heap.size → ¬ zA g G U.heap.size q → B.heap[q]? = U.heap[q]?) ∧ U.WarmedH B.vm ∧ (∀ z ∈ L, zA g G U.heap.size z.base) ∧
      Stand p (zl0 g) e R s m sargs below meth c B (locs ++ L) (k + mc) (n + ms) ∧
      ((∃ v, r = .inl v ∧ Steps p.tables e below (doInvoke e (U.setTop gf) [] mk av.toArray).1 (B.setTop { gf with pc := gf.pc + len, stack := v.toList ++ gf.stack })) ∨
       (∃ E q ce, r = .inr E ∧ B.heap[q]? = some ce ∧ ce.vm = .none ∧ U.vm.findClass E = some ce.cls ∧ Steps p.tables e below (doInvoke e (U.setTop gf) [] mk av.toArray).1 ((B.setTop gf).pushFrame (.throwing q)))) := by
  have hM1 := hM hg U.heap.size
  obtain ⟨methY, cY, hmY, hcY, -, hlY, -⟩ := zcw_spec hn hcode
  obtain ⟨kY, hkY, -⟩ := className_of_methodNamed hn
  have hinitY : kY.init = .initialized := Cond.initialized_spec (findClass_of_methodNamed hn) hkY hinit
  have h : At U gf.method c below := by rw [hgm]; exact X.here
  have h1 : (headSpec [zcw y cc nl ret tb] (zrm d mc ms)).pre.before av.toArray U = true := atoms_intro fun w hw => by
    rw [List.mem_singleton.mp hw]; exact hcode
  have happ : (headSpec [zcw y cc nl ret tb] (zrm d mc ms)).appliesLoose y e.platform (U.calling gf mk av.toArray) = true :=
    Spec.appliesLoose_calling (g := gf) h hdg hn hkY hinitY
      (X.room_calling (g := gf) (R' := zrm d mc ms) hsize hmY hcY hfr (by rw [hlY]; show _ + (64 * d) ≤ _; omega) hc1 hs1) h1
  obtain ⟨mid, hmid⟩ := h.above
  have hfr0 : (U.setTop gf).frames = (.java gf :: mid) ++ below := by rw [State.frames_setTop' gf h.top, hmid]; rfl
  obtain ⟨o, s₂, hsteps, -, hend, hq⟩ := Steps.callFree hM1 p X.admits X.cas X.clock (acts := []) hfr0 happ ⟨rfl, rfl, hR, hA⟩ trivial
  have hq' : zQ g (zA g G U.heap.size) mc ms Post av.toArray (U.calling gf mk av.toArray) o s₂ := hq
  obtain ⟨r, G1, L, q1, q2, ⟨q3, q4⟩, q5, q6, q7, q8⟩ := hq'
  have q3' : U.heap.size ≤ s₂.heap.size := q3
  have q4' : ∀ q : Nat, q < U.heap.size → ¬ zA g G U.heap.size q → s₂.heap[q]? = U.heap[q]? := q4
  have hW' : U.WarmedH s₂.vm := q5
  rw [State.frames_setTop' gf h.top] at hend
  obtain ⟨g₀, hg0⟩ := Option.isSome_iff_exists.mp h.top
  obtain ⟨r0, hr⟩ := State.topJava?_eq_some.mp hg0
  have hr' : (({ U with heap := s₂.heap, slotsUsed := s₂.slotsUsed } : State).setVm s₂.vm).frames = .java g₀ :: r0 := hr
  obtain ⟨e2, p2, p3, p4, p5, p6⟩ := id q6
  have e3 : s₂ = ({ (U.calling gf mk av.toArray).setFrames s₂.frames with heap := s₂.heap, slotsUsed := s₂.slotsUsed } : State).setVm s₂.vm := by
    have : s₂ = ({ s₂ with vm := (U.calling gf mk av.toArray).vm } : State).setVm s₂.vm := rfl
    rw [e2] at this
    exact this
  have hsame : U.sameButNew ({ U with heap := s₂.heap, slotsUsed := s₂.slotsUsed } : State) L mc ms := by
    refine ⟨?_, p2, p3, p4, p5, p6⟩
    obtain ⟨t, ht, -⟩ := State.frames_cons hr
    show ({ U with heap := s₂.heap, slotsUsed := s₂.slotsUsed } : State) = { U.setFrames U.frames with heap := s₂.heap, slotsUsed := s₂.slotsUsed }
    rw [State.setFrames_self ht]
  have XB : Stand p (zl0 g) e R s m sargs below meth c (({ U with heap := s₂.heap, slotsUsed := s₂.slotsUsed } : State).setVm s₂.vm) (locs ++ L) (k + mc) (n + ms) := by
    subst hgm
    exact ⟨X.admits, X.cas, X.clock, X.frames, X.room, X.hears, X.method, X.code, (X.here.setHeapUsed s₂.heap s₂.slotsUsed).setVm hW'.alike, X.tail, State.WarmedH.trans X.warmed hW', X.limits, X.bytes, X.same.trans (hsame.setVm s.vm)⟩
  refine ⟨r, G1, (({ U with heap := s₂.heap, slotsUsed := s₂.slotsUsed } : State).setVm s₂.vm), L, q1, q2, q3', q4', hW', q7, XB, ?_⟩
  cases r with
  | inl v =>
    have q8' : o = .returned v := q8
    subst q8'
    obtain ⟨c₂, i₂, len₂, hc₂, hd₂, hf₂⟩ := hend
    have hcc : c₂ = c := by
      have h1 : s₂.code? gf.method = U.code? gf.method := by
        rw [State.code?_eq, State.code?_eq, hW'.alike.method?]
      exact Option.some.inj (hc₂.symm.trans (h1.trans h.code))
    subst hcc
    have hlen : len₂ = len := by rw [hdg] at hd₂; cases hd₂; rfl
    subst hlen
    refine Or.inl ⟨v, rfl, ?_⟩
    have hs₂ : s₂ = (({ U with heap := s₂.heap, slotsUsed := s₂.slotsUsed } : State).setVm s₂.vm).setTop { gf with pc := gf.pc + len₂, stack := v.toList ++ gf.stack } := by
      refine e3.trans ?_
      rw [hf₂, State.calling_eq h.top, State.setFrames_setFrames, State.setTop_of_frames _ hr', hr]
      rfl
    rw [← hs₂]
    exact hsteps
  | inr E =>
    obtain ⟨q, ce, q9, q10, q11, q12⟩ := q8
    subst q9
    have hf₂ : s₂.frames = .throwing q :: .java gf :: U.frames.tail := hend
    refine Or.inr ⟨E, q, ce, rfl, q10, q11, q12, ?_⟩
    have hs₂ : s₂ = ((({ U with heap := s₂.heap, slotsUsed := s₂.slotsUsed } : State).setVm s₂.vm).setTop gf).pushFrame (.throwing q) := by
      refine e3.trans ?_
      rw [hf₂, State.calling_eq h.top, State.setFrames_setFrames, State.pushFrame, State.frames_setTop _ hr', State.setTop_of_frames _ hr', State.setFrames_setFrames, hr]
      rfl
    rw [← hs₂]
    exact hsteps
section ZD
variable {g : zGt} {X : zX} {cc : ByteArray} {y : MethodName} {ret : Option FieldType} {tb : List (Nat × Nat × Nat × Nat)} {nl d mc ms : Nat} {Post : zRes → zG → Prop} {pc : Nat} {zl : List (Option Value)} {G : zG} {k n : Nat}
variable {y2 : MethodName} {cc2 : ByteArray} {nl2 : Nat} {ret2 : Option FieldType} {tb2 : List (Nat × Nat × Nat × Nat)} {mc2 ms2 idx : Nat} {av rest : List Value} {Post1 : zRes → zG → Prop}
/-- the pool's entry idx of class own names y2 -/
def zlk2 (own : String) (idx : Nat) (y2 : MethodName) : Prop := Cond.methodLink own idx y2 ∈ zTW ∨ ∃ host, Cond.methodLinkNest own idx y2 host ∈ zTW
theorem zlk2.a {own : String} {idx : Nat} {y2 : MethodName} (h : Cond.methodLink own idx y2 ∈ zTW) : zlk2 own idx y2 := Or.inl h
theorem zlk2.b {own : String} {idx : Nat} {y2 : MethodName} {host : String} (h : Cond.methodLinkNest own idx y2 host ∈ zTW) : zlk2 own idx y2 := Or.inr ⟨host, h⟩
theorem zcw_good {y : MethodName} {cc : ByteArray} {nl : Nat} {ret : Option FieldType} {tb : List (Nat × Nat × Nat × Nat)} : ((zcw y cc nl ret tb).onTables && (zcw y cc nl ret tb).keeps) = true := by
  cases tb <;> rfl
/-- a method that is named, with its code: static or not, it can be called -/
def zFit (y2 : MethodName) (cc2 : ByteArray) (nl2 : Nat) (ret2 : Option FieldType) (tb2 : List (Nat × Nat × Nat × Nat)) (n : Nat) : Prop :=
  Cond.initialized y2.cls ∈ zTW ∧ zcw y2 cc2 nl2 ret2 tb2 ∈ zTW ∧ (y2.cls ≠ "java/lang/invoke/MethodHandle" ∧ y2.cls ≠ "java/lang/invoke/VarHandle") ∧ (parseMethodDescriptor y2.desc).map (fun d => d.parameters.length) = some n ∧ nl2 ≤ 40
theorem zcall_go {p : Program} {e : Env} {R : Room} {s : State} {m : MethodId} {args : Array Value} {below : List Frame} {meth : Method} {c : Code} {A : Nat → Prop} {nL : Nat} (hX : zOK g (p, e, R, s, m, args, below, meth, c, A, nL) cc y ret tb nl d mc ms)
    (hM : zMet g y2 cc2 nl2 ret2 tb2 (d - 1) mc2 ms2 av G Post1) {N : Nat} (hF : zFit y2 cc2 nl2 ret2 tb2 N) (hwt : (rest.map fun v => v.category).sum ≤ 12) (hd1 : 1 ≤ d) (hk1 : k + mc2 ≤ mc) (hn1 : n + ms2 ≤ ms) {i0 : Instr} (hdg : decode cc pc = .ok (i0, 3))
    (kk : ∀ (v : Option Value) (G1 : zG), Post1 (.inl v) G1 → zw g (p, e, R, s, m, args, below, meth, c, A, nL) Post (pc + 3) zl (v.toList ++ rest) G1 (k + mc2) (n + ms2))
    (kx : ∀ (E : String) (G1 : zG), Post1 (.inr E) G1 → zt g (p, e, R, s, m, args, below, meth, c, A, nL) Post pc E zl G1 (k + mc2) (n + ms2))
    {H : Heap} {locs : List Loc} {L : Array Slot} (hR : zRep (zD g) (ztc g) A G H) (hS : va_S A s.heap H locs) (hL : zloc L nL zl) {T : State} (hT : T.heap = H) {vm₁ : Vm} (X₁ : Stand p (zl0 g) e R s m args below meth c (T.setVm vm₁) locs k n) {mk : MethodId} (hn : s.methodNamed? y2 = some mk) {gs : List Value}
    (hstep : ∀ target, (∀ acts, Steps p.tables e below (doInvoke e ((T.setVm vm₁).setTop (F0 m pc L rest)) acts mk av.toArray).1 target) → Steps p.tables e below (T.setTop (F0 m pc L gs)) target) :
    ∃ t, Steps p.tables e below (T.setTop (F0 m pc L gs)) t ∧ zEnd g below args s A R.cells R.slots Post t := by
  subst hT
  have hrm := hX.rm
  have c1 : k + mc2 ≤ R.cells := by rw [hrm]; exact hk1
  have c2 : n + ms2 ≤ R.slots := by rw [hrm]; exact hn1
  have c3 : d - 1 + 1 ≤ R.frames := by rw [hrm]; show d - 1 + 1 ≤ d; omega
  have c4 : 12 + (nl2 + 11) + 64 * (d - 1) ≤ R.locals := by
    rw [hrm]; show _ ≤ 64 * d
    have := hF.2.2.2.2
    omega
  have hWU : s.WarmedH (T.setVm vm₁).vm := X₁.warmed
  have hAf : zAft g (T.setVm vm₁) (T.setVm vm₁).heap := zAft.to hX.af hWU hX.A0 hS.1 hS.2.1
  have hsub : ∀ q, zA g G (T.setVm vm₁).heap.size q → A q := fun q hq => by
    rcases hq.1 with h | h
    · exact hR.inA h
    · exact hX.hA q (Nat.le_trans hS.1 h)
  have hRU : zRep (zD g) (ztc g) (zA g G (T.setVm vm₁).heap.size) G (T.setVm vm₁).heap := by
    obtain ⟨ws, h1, h2, h3, h4⟩ := hR
    refine ⟨ws, h1, h2.weaken (fun j q hj hq => ?_), h3, h4⟩
    obtain ⟨c9, h9, -⟩ := h4 j q hj
    exact ⟨Or.inl (by rw [h9]; exact fun z => by cases z), hX.A0 _ hq⟩
  obtain ⟨r, G1, B, L1, q1, q2, q3, q4, q5, q6, XB, q7⟩ := zback (W9 := 12) hM hX.gl X₁ (gf := F0 m pc L rest) rfl (by rw [hX.ml]; exact hL.size) (by rw [hX.cd]; exact hdg) (by show 2 * 0 + (rest.map fun v => v.category).sum ≤ 12; omega) (X₁.named hn)
    (word_at hAf.1 (Or.inl zcw_good) (hX.gl.1 _ hF.2.1)) (word_at hAf.1 (Or.inl rfl) (hX.gl.1 _ hF.1)) c3 c4 c1 c2 hRU hAf
  have hS1 : va_S A s.heap B.heap (locs ++ L1) := ⟨Nat.le_trans hS.1 q3, fun q h1 h2 => by rw [q4 q (Nat.lt_of_lt_of_le h1 hS.1) (fun z => h2 (hsub q z))]; exact hS.2.1 q h1 h2, fun q hq => by
      rcases List.mem_append.mp hq with h | h
      · exact hS.2.2 q h
      · exact hsub _ (q6 q h)⟩
  rcases q7 with ⟨v, rfl, hst⟩ | ⟨E, q, ce, rfl, h1, h2, h3, hst⟩
  · obtain ⟨t, a1, b1⟩ := kk v G1 q1 B.heap (locs ++ L1) L (q2.weaken hsub) hS1 hL c1 c2 B rfl XB
    exact ⟨t, hstep t fun acts => by rw [doInvoke_state]; exact hst.trans a1, b1⟩
  · have h3' : s.vm.findClass E = some ce.cls := by
      rw [← hWU.alike.findClass]
      exact h3
    obtain ⟨t, a1, b1⟩ := kx E G1 q1 B.heap (locs ++ L1) L rest q ce (q2.weaken hsub) hS1 hL c1 c2 h1 h2 h3' B rfl XB
    exact ⟨t, hstep t fun acts => by rw [doInvoke_state]; exact hst.trans a1, b1⟩
theorem zOK.wn {p : Program} {e : Env} {R : Room} {s : State} {m : MethodId} {args : Array Value} {below : List Frame} {meth : Method} {c : Code} {A : Nat → Prop} {nL : Nat} (hX : zOK g (p, e, R, s, m, args, below, meth, c, A, nL) cc y ret tb nl d mc ms) {own host : String} (hw : Cond.methodLinkNest own idx y2 host ∈ zTW) : (Cond.methodLinkNest own idx y2 host).before args s = true :=
  va_Nw.use rfl (va_Nw.warmM hX.af.1 (va_Nw.of rfl (hX.gl.1 _ hw)))
theorem zr_callS (hX : zOK g X cc y ret tb nl d mc ms) {st : List Value} (hM : zMet g y2 cc2 nl2 ret2 tb2 (d - 1) mc2 ms2 av G Post1) (hw1 : zlk2 y.cls idx y2) (hw2 : Cond.static y2 ∈ zTW) (hF : zFit y2 cc2 nl2 ret2 tb2 av.length) (hst : st = av.reverse ++ rest) (hwt : (rest.map fun v => v.category).sum ≤ 12) (hd1 : 1 ≤ d) (hk1 : k + mc2 ≤ mc) (hn1 : n + ms2 ≤ ms) (hd : decode cc pc = .ok (.invokestatic idx, 3))
    (kk : ∀ (v : Option Value) (G1 : zG), Post1 (.inl v) G1 → zw g X Post (pc + 3) zl (v.toList ++ rest) G1 (k + mc2) (n + ms2))
    (kx : ∀ (E : String) (G1 : zG), Post1 (.inr E) G1 → zt g X Post pc E zl G1 (k + mc2) (n + ms2)) : zw g X Post pc zl st G k n := by
  obtain ⟨p, e, R, s, m, args, below, meth, c, A, nL⟩ := X
  subst hst
  intro H locs L hR hS hL hk hn T hT X
  have hcode : (zcw y2 cc2 nl2 ret2 tb2).before args s = true := hX.wk hF.2.1 zcw_good
  obtain ⟨mk, hnamed⟩ : ∃ mk, s.methodNamed? y2 = some mk := by
    cases tb2 with
    | nil => exact Cond.code_named hcode
    | cons a r => obtain ⟨m9, -, -, h9, -⟩ := Cond.codeWith_spec hcode; exact ⟨m9, h9⟩
  obtain ⟨methM, cM, hmethM, -, -, -, -, -, -, hsigM⟩ := zcw_spec hnamed hcode
  have hstatic : methM.isStatic = true := Cond.static_spec hnamed hmethM (hX.wk hw2 rfl)
  obtain ⟨kP, hkP, -⟩ := className_of_methodNamed hnamed
  have hinitP : kP.init = .initialized := Cond.initialized_spec (findClass_of_methodNamed hnamed) hkP (hX.wk hF.1 rfl)
  have hlen : av.length = methM.sig.parameters.length := by
    have h9 := hF.2.2.2.1
    rw [hsigM] at h9
    exact (Option.some.inj h9).symm
  rcases hw1 with hw1 | ⟨host, hw1⟩
  · obtain ⟨vm₁, X₁, hstep₁⟩ := X.invokestatic hX.ex hX.ow (hX.wk hw1 rfl) hnamed hmethM hstatic hkP hinitP hF.2.2.1 (g := F0 m pc L (av.reverse ++ rest)) rfl (argsL := av) (rest := rest) hlen rfl (by rw [hX.cd]; exact hd)
    exact zcall_go hX hM hF hwt hd1 hk1 hn1 hd kk kx hR hS hL hT X₁ hnamed hstep₁
  · obtain ⟨vm₁, X₁, hstep₁⟩ := X.invokestaticNest hX.ex hX.ow (hX.wn hw1) hnamed hmethM hstatic hkP hinitP hF.2.2.1 (g := F0 m pc L (av.reverse ++ rest)) rfl (argsL := av) (rest := rest) hlen rfl (by rw [hX.cd]; exact hd)
    exact zcall_go hX hM hF hwt hd1 hk1 hn1 hd kk kx hR hS hL hT X₁ hnamed hstep₁
theorem zr_callV (hX : zOK g X cc y ret tb nl d mc ms) {st : List Value} {b ci M : Nat} {fs : List Value} {C : String} {T9 : u_T} (hM : zMet g y2 cc2 nl2 ret2 tb2 (d - 1) mc2 ms2 (.ref b :: av) G Post1) (hw1 : zlk2 y.cls idx y2) (hw2 : Cond.instanceMethod y2 ∈ zTW) (hw3 : Cond.selects C y2 y2 ∈ zTW) (hF : zFit y2 cc2 nl2 ret2 tb2 av.length) (hc : zcl[ci]? = some (C, T9, M)) (hG : G b = some (zO ci fs)) (hst : st = av.reverse ++ .ref b :: rest) (hwt : (rest.map fun v => v.category).sum ≤ 12) (hd1 : 1 ≤ d) (hk1 : k + mc2 ≤ mc) (hn1 : n + ms2 ≤ ms) (hd : decode cc pc = .ok (.invokevirtual idx, 3))
    (kk : ∀ (v : Option Value) (G1 : zG), Post1 (.inl v) G1 → zw g X Post (pc + 3) zl (v.toList ++ rest) G1 (k + mc2) (n + ms2))
    (kx : ∀ (E : String) (G1 : zG), Post1 (.inr E) G1 → zt g X Post pc E zl G1 (k + mc2) (n + ms2)) : zw g X Post pc zl st G k n := by
  obtain ⟨p, e, R, s, m, args, below, meth, c, A, nL⟩ := X
  subst hst
  intro H locs L hR hS hL hk hn T hT X
  have hcode : (zcw y2 cc2 nl2 ret2 tb2).before args s = true := hX.wk hF.2.1 zcw_good
  obtain ⟨mk, methM, hnamed, hmethM, hstM, habM⟩ := Cond.instanceMethod_spec (hX.wk hw2 rfl)
  obtain ⟨methM', cM, hmethM', -, -, -, -, -, -, hsigM⟩ := zcw_spec hnamed hcode
  cases hmethM.symm.trans hmethM'
  obtain ⟨cellB, hcB, hoB, hclB⟩ : ∃ cell : Cell, H[b]? = some cell ∧ cell.vm.isStatics = false ∧ s.vm.findClass C = some cell.cls := by
    obtain ⟨ws, h1, h2, h3, h4⟩ := hR
    obtain ⟨q, hq⟩ := h3 b _ hG
    exact va_recv hX.K h1 hc hq
  obtain ⟨c2, r2, m2, q1, q2, q3, q4, kP, hkP, hkPi⟩ := Cond.selects_spec (hX.wk hw3 rfl)
  cases hclB.symm.trans q1
  cases (State.methodFound?_of_named hnamed hF.2.2.1).symm.trans q2
  cases hnamed.symm.trans q3
  have hselP : selectMethod e.platform s.vm cellB.cls mk = .method mk := by rw [Launch.admits_selectMethod X.admits]; exact q4
  have hlen : av.length = methM.sig.parameters.length := by
    have h9 := hF.2.2.2.1
    rw [hsigM] at h9
    exact (Option.some.inj h9).symm
  rcases hw1 with hw1 | ⟨host, hw1⟩
  · obtain ⟨vm₁, X₁, hstep₁⟩ := X.invokevirtual hX.ex hX.ow (hX.wk hw1 rfl) hnamed hmethM hstM hkP hkPi hF.2.2.1 (a := b) (cell := cellB) (by rw [hT]; exact hcB) (fun z h => by rw [h] at hoB; cases hoB) hselP hmethM habM hkP hkPi (g := F0 m pc L (av.reverse ++ .ref b :: rest)) rfl (argsL := av) (rest := rest) hlen rfl (by rw [hX.cd]; exact hd)
    exact zcall_go hX hM hF hwt hd1 hk1 hn1 hd kk kx hR hS hL hT X₁ hnamed hstep₁
  · obtain ⟨vm₁, X₁, hstep₁⟩ := X.invokevirtualNest hX.ex hX.ow (hX.wn hw1) hnamed hmethM hstM hkP hkPi hF.2.2.1 (a := b) (cell := cellB) (by rw [hT]; exact hcB) (fun z h => by rw [h] at hoB; cases hoB) hselP hmethM habM hkP hkPi (g := F0 m pc L (av.reverse ++ .ref b :: rest)) rfl (argsL := av) (rest := rest) hlen rfl (by rw [hX.cd]; exact hd)
    exact zcall_go hX hM hF hwt hd1 hk1 hn1 hd kk kx hR hS hL hT X₁ hnamed hstep₁
theorem zr_callI (hX : zOK g X cc y ret tb nl d mc ms) {st : List Value} {b : Nat} (hM : zMet g y2 cc2 nl2 none [] (d - 1) mc2 ms2 (.ref b :: av) G Post1) (hw1 : zlk2 y.cls idx y2) (hy1 : y2.name = "<init>") (hw2 : Cond.instanceMethod y2 ∈ zTW) (hF : zFit y2 cc2 nl2 none [] av.length) (hst : st = av.reverse ++ .ref b :: rest) (hwt : (rest.map fun v => v.category).sum ≤ 12) (hd1 : 1 ≤ d) (hk1 : k + mc2 ≤ mc) (hn1 : n + ms2 ≤ ms) (hd : decode cc pc = .ok (.invokespecial idx, 3))
    (kk : ∀ (v : Option Value) (G1 : zG), Post1 (.inl v) G1 → zw g X Post (pc + 3) zl (v.toList ++ rest) G1 (k + mc2) (n + ms2))
    (kx : ∀ (E : String) (G1 : zG), Post1 (.inr E) G1 → zt g X Post pc E zl G1 (k + mc2) (n + ms2)) : zw g X Post pc zl st G k n := by
  obtain ⟨p, e, R, s, m, args, below, meth, c, A, nL⟩ := X
  subst hst
  intro H locs L hR hS hL hk hn T hT X
  have hcode : (Cond.code y2 cc2 nl2 none).before args s = true := hX.wk hF.2.1 rfl
  have hpl : e.platform.magicAccessors = ({} : Platform).magicAccessors := by rw [X.admits.platform]
  have hlen : ∀ sig, parseMethodDescriptor y2.desc = some sig → av.length = sig.parameters.length := fun sig h => by
    have h9 := hF.2.2.2.1
    rw [h] at h9
    exact (Option.some.inj h9).symm
  rcases hw1 with hw1 | ⟨host, hw1⟩
  · obtain ⟨mk, methM, cM, kP, vm₁, hnamed, hmethM, hcodeM, -, hlocalsM, -, hkP, -, hW₁, hstep₁⟩ := Steps.initColdArgs (e := e) X.here hX.ex X.warmed hpl hX.ow hy1 hF.2.2.1 (hX.wk hw1 rfl) (hX.wk hw2 rfl) hcode (f := F0 m pc L (av.reverse ++ .ref b :: rest)) rfl hlen rfl (by rw [hX.cd]; exact hd)
    exact zcall_go hX hM hF hwt hd1 hk1 hn1 hd kk kx hR hS hL hT (X.noted hW₁) hnamed hstep₁
  · obtain ⟨mk, methM, cM, kP, vm₁, hnamed, hmethM, hcodeM, -, hlocalsM, -, hkP, -, hW₁, hstep₁⟩ := Steps.initColdArgsNest (e := e) X.here hX.ex X.warmed hpl hX.ow hy1 hF.2.2.1 (hX.wn hw1) (hX.wk hw2 rfl) hcode (f := F0 m pc L (av.reverse ++ .ref b :: rest)) rfl hlen rfl (by rw [hX.cd]; exact hd)
    exact zcall_go hX hM hF hwt hd1 hk1 hn1 hd kk kx hR hS hL hT (X.noted hW₁) hnamed hstep₁
end ZD
end
section
/-! exceptions: how one is caught here, or goes on to the caller -/
def zFt (e : Env) (S : State) (f : JFrame) (a : Addr) (h : Handler) (vm' : Vm) : Prop :=
  ∀ (Q : Handler → Pre) (E : CtlPost) (d : Bool) (acts : List Action), wp (findHandler f a) Q E e d acts S ↔ Q h d acts (S.setVm vm')
/-- a row of the table that doesn't take an object of class 'thrown', at the tables of s0 -/
def zPass (pl : Platform) (s0 : State) (dc : ClassId) (pc : Nat) (thrown : ClassId) (x : ExceptionTableEntry) : Prop :=
  covers x pc = false ∨ (x.catchType ≠ 0 ∧ ∃ c, s0.vm.ClassLinks pl dc x.catchType c ∧ s0.vm.assignable thrown c = false)
theorem zgo_one {Q : Handler → Pre} {E : CtlPost} {e : Env} {d : Bool} {acts : List Action} {S : State} {f : JFrame} {a : Addr} {x : ExceptionTableEntry} {t : List ExceptionTableEntry} {c : ClassId} {cell : Cell} (hx : covers x f.pc = true) (h0 : x.catchType ≠ 0)
    (hl : S.vm.ClassLinks e.platform f.method.cls x.catchType c) (hcell : S.heap[a]? = some cell) (hobj : ∀ k, cell.vm ≠ .statics k) (hk : ∃ k, S.vm.classes[cell.cls]? = some k) (hc : ∃ k, S.vm.classes[c]? = some k) :
    (S.vm.assignable cell.cls c = true → (wp (findHandler.go f a (x :: t)) Q E e d acts S ↔ Q (.found x.handlerPc) d acts (S.setVm (S.vm.noted f.method.cls x.catchType (.cls c))))) ∧
    (S.vm.assignable cell.cls c = false → (wp (findHandler.go f a (x :: t)) Q E e d acts S ↔ wp (findHandler.go f a t) Q E e d acts (S.setVm (S.vm.noted f.method.cls x.catchType (.cls c))))) := by
  simp only [covers] at hx
  obtain ⟨ha, ht⟩ := (resolveClass_links e.toSetting hl).op (op := VmOp.resolveClass f.method.cls x.catchType) rfl
  have hal : S.vm.Alike (S.vm.noted f.method.cls x.catchType (.cls c)) := (Vm.Alike.refl S.vm).noted _ _ _
  obtain ⟨k1, hk1⟩ := hk
  obtain ⟨k2, hk2⟩ := hc
  obtain ⟨k3, hk3, -⟩ := hal.2.2 _ _ hk1
  obtain ⟨k4, hk4, -⟩ := hal.2.2 _ _ hk2
  refine ⟨fun hf => ?_, fun hf => ?_⟩
  · have hf2 : (S.vm.noted f.method.cls x.catchType (.cls c)).assignable cell.cls c = true := by rw [hal.assignable]; exact hf
    simp [findHandler.go, hx, h0, ha, ht, hcell, hobj, hk3, hk4, hf2, VmOp.dirties, VmOp.acts]
  · have hf2 : (S.vm.noted f.method.cls x.catchType (.cls c)).assignable cell.cls c = false := by rw [hal.assignable]; exact hf
    simp [findHandler.go, hx, h0, ha, ht, hcell, hobj, hk3, hk4, hf2, VmOp.dirties, VmOp.acts]
theorem zgo_all {e : Env} {s0 : State} {f : JFrame} {a : Addr} {cell : Cell} (hobj : ∀ k, cell.vm ≠ .statics k) {k0 : Class} (hk0 : s0.vm.classes[cell.cls]? = some k0)
    (x : ExceptionTableEntry) (rest : List ExceptionTableEntry) (hx : covers x f.pc = true) (h0 : x.catchType ≠ 0) {c : ClassId} (hl : s0.vm.ClassLinks e.platform f.method.cls x.catchType c) (hfit : s0.vm.assignable cell.cls c = true) :
    ∀ (pre : List ExceptionTableEntry) (S : State), s0.WarmedH S.vm → S.heap[a]? = some cell → (∀ z ∈ pre, zPass e.platform s0 f.method.cls f.pc cell.cls z) →
      ∃ vm', s0.WarmedH vm' ∧ ∀ (Q : Handler → Pre) (E : CtlPost) (d : Bool) (acts : List Action), wp (findHandler.go f a (pre ++ x :: rest)) Q E e d acts S ↔ Q (.found x.handlerPc) d acts (S.setVm vm') := by
  intro pre
  induction pre with
  | nil =>
    intro S hW hcell _
    obtain ⟨k1, hk1, -⟩ := hW.alike.2.2 _ _ hk0
    obtain ⟨dk, _, _, kt, hd, _, _, _, _, hkt, _, hopen⟩ := hl.here
    obtain ⟨k2, hk2, -⟩ := hW.alike.2.2 _ _ hkt
    exact ⟨_, hW.noted hd hopen (State.rightAt_cls hl), fun Q E d acts => (zgo_one hx h0 (hW.classLinks hl) hcell hobj ⟨k1, hk1⟩ ⟨k2, hk2⟩).1 (by rw [hW.alike.assignable]; exact hfit)⟩
  | cons z zs ih =>
    intro S hW hcell hp
    obtain ⟨k1, hk1, -⟩ := hW.alike.2.2 _ _ hk0
    have hp2 : ∀ w ∈ zs, zPass e.platform s0 f.method.cls f.pc cell.cls w := fun w hw => hp w (List.mem_cons_of_mem _ hw)
    by_cases hcov : covers z f.pc = true
    · rcases hp z List.mem_cons_self with h | ⟨hz0, c9, hl9, hno⟩
      · rw [h] at hcov; cases hcov
      · obtain ⟨dk, _, _, kt, hd, _, _, _, _, hkt, _, hopen⟩ := hl9.here
        obtain ⟨k2, hk2, -⟩ := hW.alike.2.2 _ _ hkt
        obtain ⟨vm', hW', hq⟩ := ih (S.setVm (S.vm.noted f.method.cls z.catchType (.cls c9))) (hW.noted hd hopen (State.rightAt_cls hl9)) hcell hp2
        exact ⟨vm', hW', fun Q E d acts => ((zgo_one hcov hz0 (hW.classLinks hl9) hcell hobj ⟨k1, hk1⟩ ⟨k2, hk2⟩).2 (by rw [hW.alike.assignable]; exact hno)).trans (hq Q E d acts)⟩
    · obtain ⟨vm', hW', hq⟩ := ih S hW hcell hp2
      exact ⟨vm', hW', fun Q E d acts => by
        rw [List.cons_append, W.findHandler_go_skip (by simpa using hcov)]
        exact hq Q E d acts⟩
theorem zstep_catch {e : Env} {S : State} {a : Addr} {f : JFrame} {r : List Frame} {pc : Nat} {vm' : Vm} (hf : zFt e S f a (.found pc) vm') :
    (stepThrowing e S a (.java f :: r)).Is ((S.setVm vm').setFrames (.java { f with pc := pc, stack := [.ref a] } :: r)) [] := by
  simp only [stepThrowing, searchFrame, vmDo]
  generalize hr : Sem.go _ e false [] S = res
  obtain ⟨as, rfl, ha⟩ := Sem.eq_ok_of hr (a := Handler.found pc) (s' := S.setVm vm') (acts' := []) (by simp [hf _ _ _ _])
  exact ⟨rfl, ha⟩
theorem zcaught {tbl : Tables} {e : Env} {S target : State} {gf : JFrame} {c : Code} {below : List Frame} {a : Addr} (h : At S gf.method c below) {pc : Nat} {vm' : Vm}
    (hf : zFt e ((S.setTop gf).pushFrame (.throwing a)) gf a (.found pc) vm') (hr : Steps tbl e below ((S.setVm vm').setTop { gf with pc := pc, stack := [.ref a] }) target) :
    Steps tbl e below ((S.setTop gf).pushFrame (.throwing a)) target := by
  obtain ⟨hgo, hw⟩ := h.throwing a
  refine Steps.head hgo hw ?_
  rw [stepThread_throwing (frames_entered h.top _), (zstep_catch (S := (S.setTop gf).pushFrame (.throwing a)) hf).1]
  obtain ⟨g₀, hg⟩ := Option.isSome_iff_exists.mp h.top
  obtain ⟨r, hr0⟩ := State.topJava?_eq_some.mp hg
  have hr1 : (S.setVm vm').frames = .java g₀ :: r := hr0
  have key : ∀ (u : State) (F F2 : List Frame), ((u.setFrames F).setVm vm').setFrames F2 = (u.setVm vm').setFrames F2 := fun u F F2 => by
    have h1 : (u.setFrames F).setVm vm' = (u.setVm vm').setFrames F := rfl
    rw [h1, State.setFrames_setFrames]
  rw [State.setTop_of_frames _ hr1] at hr
  rw [hr0, List.tail_cons, State.pushFrame, key, State.setTop_of_frames _ hr0, key]
  exact hr
section ZEX
variable {g : zGt} {X : zX} {cc : ByteArray} {y : MethodName} {ret : Option FieldType} {tb : List (Nat × Nat × Nat × Nat)} {nl d mc ms : Nat} {Post : zRes → zG → Prop} {pc : Nat} {zl : List (Option Value)} {G : zG} {k n : Nat}
/-- it isn't caught here -/
theorem zt_out (hX : zOK g X cc y ret tb nl d mc ms) (hout : ∀ x ∈ tableOf tb, covers x pc = false) {E : String} (hp : Post (.inr E) G) : zt g X Post pc E zl G k n := by
  obtain ⟨p, e, R, s, m, args, below, meth, c, A, nL⟩ := X
  intro H locs L st q ce hR hS hL hk hn h1 h2 h3 T hT X
  obtain ⟨st1, hrun, hend, hW, hsm⟩ := X.leaveThrown q (g := F0 m pc L st) rfl rfl rfl (by rw [hX.tq]; exact hout) hX.lk
  have hh : (T.setFrames (.throwing q :: below)).heap = H := hT
  exact ⟨_, st1, .threw q, hrun, hend, .inr E, G, locs, hp, by rw [hh]; exact hR, hS.F hh, hW, hsm.mono hk hn, hS.2.2, q, ce, rfl, by rw [hh]; exact h1, h2, h3⟩
/-- it is caught by the row x of the table, behind rows that don't take it -/
theorem zt_catch (hX : zOK g X cc y ret tb nl d mc ms) {E name : String} (pre : List ExceptionTableEntry) (x : ExceptionTableEntry) (suf : List ExceptionTableEntry) (hsp : tableOf tb = pre ++ x :: suf)
    (hpass : ∀ z ∈ pre, covers z pc = false ∨ (z.catchType ≠ 0 ∧ ∃ nm : String, Cond.classLink y.cls z.catchType nm ∈ zTW ∧ Cond.not (.castable E nm) ∈ zTW)) (hx : covers x pc = true) (h0 : x.catchType ≠ 0)
    (hw1 : Cond.classLink y.cls x.catchType name ∈ zTW) (hw2 : Cond.castable E name ∈ zTW) (kk : ∀ q : Nat, zw g X Post x.handlerPc zl [.ref q] G k n) : zt g X Post pc E zl G k n := by
  obtain ⟨p, e, R, s, m, args, below, meth, c, A, nL⟩ := X
  intro H locs L st q ce hR hS hL hk hn h1 h2 h3 T hT X
  have hpl : e.platform.magicAccessors = ({} : Platform).magicAccessors := by rw [X.admits.platform]
  have hWm := hX.af.1
  obtain ⟨c3, c4, hc3, hc4, hasg⟩ := Cond.castable_spec (va_Nw.use (A := args) rfl (va_Nw.warmC hWm (va_Nw.of rfl (hX.gl.1 _ hw2))))
  cases Option.some.inj (hc3.symm.trans h3)
  obtain ⟨c5, hc5, hcl5⟩ := Cond.classLink_spec hX.ow (hX.wk hw1 rfl) e.platform hpl
  cases Option.some.inj (hc4.symm.trans hc5)
  obtain ⟨k9, h9, -⟩ := Vm.findClass_spec h3
  have hobj : ∀ kk, ce.vm ≠ .statics kk := fun kk h => by rw [h2] at h; cases h
  obtain ⟨vm', hW', hq⟩ := zgo_all (e := e) (s0 := s) (f := F0 m pc L st) (a := q) hobj h9 x suf hx h0 hcl5 hasg pre ((T.setTop (F0 m pc L st)).pushFrame (.throwing q)) X.warmed (by
      show T.heap[q]? = some ce
      rw [hT]; exact h1) (fun z hz => by
    rcases hpass z hz with h | ⟨hz0, nm, hl1, hn1⟩
    · exact Or.inl h
    · obtain ⟨c6, hc6, hcl6⟩ := Cond.classLink_spec hX.ow (hX.wk hl1 rfl) e.platform hpl
      have hnc : va_Nc E nm (zs0 g) := va_Nc.of (hX.gl.1 _ hn1)
      obtain ⟨a8, b8, g1, g2, g3⟩ := hnc.moved hWm.alike
      cases Option.some.inj (g1.symm.trans h3)
      cases Option.some.inj (g2.symm.trans hc6)
      exact Or.inr ⟨hz0, _, hcl6, g3⟩)
  obtain ⟨t, a1, b1⟩ := kk q H locs L hR hS hL hk hn (T.setVm vm') hT (X.noted hW')
  refine ⟨t, zcaught (gf := F0 m pc L st) X.here (vm' := vm') (pc := x.handlerPc) (fun Q E d acts => ?_) a1, b1⟩
  rw [W.findHandler_eq (meth := meth) (code := c) X.method' X.code, hX.tq, hsp]
  exact hq Q E d acts
end ZEX
/-! 'throw new E()' -/
/-- the same frame, seen from here: as if the method were called anew in this heap -/
theorem zanew {p : Program} {l : Launch} {e : Env} {R : Room} {s : State} {m : MethodId} {args : Array Value} {below : List Frame} {meth : Method} {c : Code} {T : State} {locs : List Loc} {k n : Nat} (X : Stand p l e R s m args below meth c T locs k n) (hc : k + 1 ≤ R.cells) (hs : n + 6 ≤ R.slots) :
    Stand p l e { frames := R.frames, locals := R.locals, cells := 1, slots := 6 } ((T.setVm s.vm).setFrames (.invoking m args :: below)) m args below meth c T [] 0 0 := by
  have htop : (T.setVm s.vm).topJava?.isSome := X.here.top
  have hF : ((T.setVm s.vm).setFrames (.invoking m args :: below)).frames = .invoking m args :: below := State.frames_setFrames _ (State.cur_lt_of_top htop)
  obtain ⟨g₀, hg0⟩ := Option.isSome_iff_exists.mp htop
  obtain ⟨r, hr⟩ := State.topJava?_eq_some.mp hg0
  have hl9 : e.platform.stackLimits (T.setVm s.vm).me = e.platform.stackLimits s.me := X.limits
  have hb9 : (T.setVm s.vm).me.stackBytes = s.me.stackBytes := X.bytes
  have hnil : (T.heap.toList.drop T.heap.size).map (fun z => z.slots.size) = [] := by
    rw [List.drop_eq_nil_of_le (Nat.le_of_eq Array.length_toList)]
    rfl
  refine ⟨X.admits, X.cas, X.clock, hF, ?_, X.hears, X.method, X.code, X.here, X.tail, X.warmed, ?_, ?_, ?_⟩
  · have h := X.room
    have hU : ((T.setVm s.vm).setFrames (.invoking m args :: below)).localsInUse = s.localsInUse := by
      rw [State.localsInUse_invoking hF (meth := meth) (c := c) X.method X.code, State.localsInUse_invoking X.frames X.method X.code]
    simp only [State.hasRoom, Bool.and_eq_true, decide_eq_true_eq] at h ⊢
    obtain ⟨⟨⟨⟨h1, h2, h3, h4, h5, h6⟩, h7⟩, h8⟩, h9⟩ := h
    rw [X.frames, List.length_cons] at h2 h3
    have q1 := X.heapSize
    have q2 := X.used
    simp only [hF, hU, List.length_cons, State.stackLimits_setFrames, State.stackBytes_setFrames, hl9, hb9]
    refine ⟨⟨⟨⟨by omega, by omega, by omega, by omega, by omega, h6⟩, ?_⟩, ?_⟩, X.book⟩
    · show T.heap.size + 1 ≤ e.platform.maxCells
      omega
    · show T.slotsUsed + 6 ≤ e.platform.maxSlots
      omega
  · rw [State.stackLimits_setFrames]; rfl
  · rw [State.stackBytes_setFrames]; rfl
  · refine ⟨?_, Nat.le_refl _, Nat.le_refl _, ?_, ?_, fun a c9 h9 => ⟨c9, h9, rfl, rfl, fun _ _ => rfl⟩⟩
    · obtain ⟨t, ht, -⟩ := State.frames_cons hr
      show T.setVm s.vm = { ((T.setVm s.vm).setFrames (.invoking m args :: below)).setFrames (T.setVm s.vm).frames with heap := T.heap, slotsUsed := T.slotsUsed }
      rw [State.setFrames_setFrames, State.setFrames_self ht]
      rfl
    · show T.slotsUsed = T.slotsUsed + ((T.heap.toList.drop T.heap.size).map (fun z => z.slots.size)).sum
      rw [hnil]
      rfl
    · show ((T.heap.toList.drop T.heap.size).map (fun z => z.slots.size)).sum ≤ 0
      rw [hnil]
      exact Nat.le_refl _
/-- words of the law's start, at a later state with the same old cells -/
theorem zlays_static {g : zGt} {U : State} {args : Array Value} (hA : zAft g U U.heap) {C n d : String} (h : (Cond.laysStatic C n d).before (za0 g) (zs0 g) = true) : (Cond.laysStatic C n d).before args U = true := by
  obtain ⟨c, k, i, f, a, cell, h1, h2, h3, h4, h5, h6, h7, h8, h9⟩ := Cond.laysStatic_spec h
  have hvm := hA.1.alike
  obtain ⟨k', hi', he⟩ := State.fieldFound?_setVm hvm h2
  show (Cond.laysStatic C n d).holds args U none U [] = true
  exact Cond.laysStatic_of (by rw [hvm.findClass]; exact h1) hi' h3 (by rw [he]; exact h4) (by rw [hA.2.2 a (Array.getElem?_eq_some_iff.mp h5).1]; exact h5) h6 h7 h8 (by rw [he]; exact h9)
theorem zref_static {g : zGt} {U : State} {args : Array Value} (hA : zAft g U U.heap) {C n d : String} (hl : (Cond.laysStatic C n d).before (za0 g) (zs0 g) = true) (hi : (Cond.initialized C).before (za0 g) (zs0 g) = true) (h : (Cond.isRef (.static C n d)).before (za0 g) (zs0 g) = true) : (Cond.isRef (.static C n d)).before args U = true := by
  have hz := va_Zqof (A := fun q => (zs0 g).heap.size ≤ q) hl hi h (fun a h1 h2 => by omega)
  have hz2 : va_Zq C n d (fun q => (zs0 g).heap.size ≤ q) U U.heap := va_Zq.moved hA.1.alike (va_Zq.kept hz (fun a h1 _ => hA.2.2 a h1))
  have key : ∀ v : Value, v.isRef = true → va_Z C n d v (fun q => (zs0 g).heap.size ≤ q) U U.heap → (Cond.isRef (.static C n d)).before args U = true := by
    intro v hv hz3
    obtain ⟨cf, kf, fi, f, a, cell, h1, h2, h3, h4, h5, h6, h7, -⟩ := hz3
    have he : (Term.static C n d).eval args U none [] U = some v := by
      simp [Term.eval, State.fieldNamed?, h1, h2, h4, h5, h6, h7]
    simp only [Cond.before, Cond.holds, Cond.value, he]
    cases v <;> simp_all [Value.isRef]
  rcases hz2 with h9 | ⟨t, h9⟩
  · exact key _ rfl h9
  · exact key _ rfl h9
def zheap (w : Cond) : Bool := decide (w = .isRef (.static Bundle.tN "UNASSIGNED_STACK" Bundle.steD)) || decide (w = .isRef (.static Bundle.tN "SUPPRESSED_SENTINEL" Bundle.listD)) || decide (w = .laysStatic Bundle.tN "UNASSIGNED_STACK" Bundle.steD) || decide (w = .laysStatic Bundle.tN "SUPPRESSED_SENTINEL" Bundle.listD)
def zkind (w : Cond) : Bool := match w with
  | .castable _ _ => true
  | w => goodWord w || zheap w
theorem zword {g : zGt} {U : State} {args : Array Value} (hg : zGl g) (hA : zAft g U U.heap) {w : Cond} (hw : w ∈ zTW) (hk : zkind w = true)
    (hq : Cond.laysStatic Bundle.tN "UNASSIGNED_STACK" Bundle.steD ∈ zTW ∧ Cond.laysStatic Bundle.tN "SUPPRESSED_SENTINEL" Bundle.listD ∈ zTW ∧ Cond.initialized Bundle.tN ∈ zTW) : w.before args U = true := by
  have h0 := hg.1 w hw
  have hgood : (goodWord w || zheap w) = true → w.before args U = true := by
    intro h
    rw [Bool.or_eq_true] at h
    rcases h with h | h
    · exact word_at hA.1 (good_of_word h) h0
    · simp only [zheap, Bool.or_eq_true, decide_eq_true_eq] at h
      rcases h with ((h | h) | h) | h
      · subst h; exact zref_static hA (hg.1 _ hq.1) (hg.1 _ hq.2.2) h0
      · subst h; exact zref_static hA (hg.1 _ hq.2.1) (hg.1 _ hq.2.2) h0
      · subst h; exact zlays_static hA h0
      · subst h; exact zlays_static hA h0
  unfold zkind at hk
  split at hk
  · exact va_Nw.use rfl (va_Nw.warmC hA.1 (va_Nw.of rfl h0))
  · exact hgood hk
theorem zr_throw0 {g : zGt} {X : zX} {cc : ByteArray} {y : MethodName} {ret : Option FieldType} {tb : List (Nat × Nat × Nat × Nat)} {nl d mc ms : Nat} {Post : zRes → zG → Prop} {pc : Nat} {zl : List (Option Value)} {G : zG} {k n : Nat} (hX : zOK g X cc y ret tb nl d mc ms) {st : List Value} {E : String} {names : List String} {ik ic : Nat} (hE : Bundle.fit E = true) (hns : ∀ n ∈ names, Bundle.fit n = true)
    (hat : ∀ w ∈ Cond.classLink y.cls ik E :: Cond.initialized E :: Bundle.ownAtoms0 y.cls ic E names, w ∈ zTW ∧ zkind w = true) (hq : Cond.laysStatic Bundle.tN "UNASSIGNED_STACK" Bundle.steD ∈ zTW ∧ Cond.laysStatic Bundle.tN "SUPPRESSED_SENTINEL" Bundle.listD ∈ zTW ∧ Cond.initialized Bundle.tN ∈ zTW)
    (d0 : decode cc pc = .ok (.new ik, 3)) (d3 : decode cc (pc + 3) = .ok (.dup, 1)) (d4 : decode cc (pc + 4) = .ok (.invokespecial ic, 3)) (d7 : decode cc (pc + 7) = .ok (.athrow, 1)) (hout : ∀ x ∈ tableOf tb, covers x (pc + 7) = false)
    (hd1 : names.length + 4 ≤ d) (hwt : (st.map fun v => v.category).sum ≤ 12) (hk1 : k + 1 ≤ mc) (hn1 : n + 6 ≤ ms) (hp : Post (.inr E) G) : zw g X Post pc zl st G k n := by
  obtain ⟨p, e, R, s, m, args, below, meth, c, A, nL⟩ := X
  intro H locs L hR hS hL hk hn T hT X
  have hrm := hX.rm
  have c1 : k + 1 ≤ R.cells := by rw [hrm]; exact hk1
  have c2 : n + 6 ≤ R.slots := by rw [hrm]; exact hn1
  have c3 : names.length + 3 < R.frames := by rw [hrm]; show _ < d; omega
  have c4 : (st.map fun v => v.category).sum + (13 * (names.length + 1) + 43) ≤ R.locals := by rw [hrm]; show _ ≤ 64 * d; omega
  have htr : e.platform.stackTraces = false := (show e.platform.stackTraces = (zl0 g).stackTraces by rw [X.admits.platform]).trans hX.gl.2.2
  have Y := zanew X c1 c2
  obtain ⟨s', hA⟩ : ∃ z, z = (T.setVm s.vm).setFrames (.invoking m args :: below) := ⟨_, rfl⟩
  rw [← hA] at Y
  have hvm : s'.vm = s.vm := by rw [hA]; rfl
  have hhp : s'.heap = H := by rw [hA]; exact hT
  have hAf : zAft g s' s'.heap := by
    rw [hhp]
    exact zAft.to hX.af (by rw [hvm]; exact State.WarmedH.refl s) hX.A0 hS.1 hS.2.1
  have hat' : ∀ w ∈ Cond.classLink y.cls ik E :: Cond.initialized E :: Bundle.ownAtoms0 y.cls ic E names, w.before args s' = true := fun w hw => zword hX.gl hAf (hat w hw).1 (hat w hw).2 hq
  have h : ∀ w ∈ Bundle.ownAtoms0 y.cls ic E names, w.before args s' = true := fun w hw => hat' w (List.mem_cons_of_mem _ (List.mem_cons_of_mem _ hw))
  have hown' : s'.vm.findClass y.cls = some m.cls := by rw [hvm]; exact hX.ow
  have hins : (Cond.instantiable E 6).before args s' = true := h _ (by simp [Bundle.ownAtoms0])
  obtain ⟨vm₁, cX, kX, hfX, hkX, -, -, X₁, st1⟩ := Y.newCold hX.ex (own := y.cls) (C := E) (index := ik) (n := 6) hown' (hat' _ List.mem_cons_self) hins (hat' _ (List.mem_cons_of_mem _ List.mem_cons_self))
    (g := F0 m pc L st) rfl (by rw [hX.cd]; exact d0) (Nat.le_refl _) (Nat.le_refl _)
  generalize hT1 : (T.setVm vm₁).pushCell { cls := cX, slots := kX.instanceTypes.map defaultValue, vm := .none } = T1 at X₁ st1
  have hcat : (Value.ref T.heap.size).category = 1 := rfl
  have hcellA : T1.heap[T.heap.size]? = some (freshCell cX kX) := by rw [← hT1]; exact State.heap_pushCell_size _ _
  have d3' : decode c.code (pc + 3) = .ok (.dup, 1) := by rw [hX.cd]; exact d3
  obtain ⟨U, hsteps, hrun, hend, hW, hsame, ce, hce, hO⟩ := X₁.ctorThrow0 hX.ex htr (own := y.cls) (cls := E) (names := names) (ic := ic) hown' hE hns h (fun x hx => nomatch hx) hfX hkX hcellA (by rw [hhp, hT]; exact Nat.le_refl _)
    (g := { method := m, pc := pc + 4, locals := L, stack := .ref T.heap.size :: .ref T.heap.size :: st, locked := none }) rfl (by rw [hX.ml]; exact hL.size) rfl rfl (rest := st) rfl
    (by rw [hX.cd]; exact d4) (by rw [hX.cd]; exact d7) (by rw [hX.tq]; exact hout) c3 (by simp only [List.map_cons, List.sum_cons, hcat]; show 2 * 0 + _ + _ ≤ R.locals; omega) hX.lk
  have hfr : H.size ≤ U.heap.size ∧ ∀ q : Nat, q < H.size → U.heap[q]? = H[q]? := by
    obtain ⟨-, h2, -, -, -, h6⟩ := hsame
    rw [hhp] at h2
    refine ⟨h2, fun q hq9 => ?_⟩
    have hq8 : q < s'.heap.size := by rw [hhp]; exact hq9
    obtain ⟨c9, e1, e2, e3, e4⟩ := h6 q _ (Array.getElem?_eq_getElem hq8)
    have hs9 : c9.slots = (s'.heap[q]).slots := Array.ext_getElem? fun i => e4 i fun hm => nomatch hm
    have h9 : c9 = s'.heap[q] := by
      rw [hs9] at e2
      exact e2
    have e5 : U.heap[q]? = some c9 := e1
    rw [e5, h9, ← Array.getElem?_eq_getElem hq8, hhp]
  have hWs : s.WarmedH U.vm := by
    have h9 : s'.WarmedH U.vm := hW
    exact State.WarmedH.trans (show s.WarmedH s'.vm by rw [hvm]; exact State.WarmedH.refl s) h9
  have hcl : s.vm.findClass E = some ce.cls := by
    have h9 := hO.cls
    rw [hvm] at h9
    exact h9
  have hall : s.sameButNew ({ U with vm := s.vm } : State) locs R.cells R.slots := by
    subst hA
    obtain ⟨e1, e2⟩ := hsame
    rw [State.setFrames_setFrames] at e1
    have h2 : (T.setVm s.vm).sameButNew ({ U with vm := s.vm } : State) [] (0 + 1) (0 + 6) := ⟨e1, e2⟩
    have h3 := X.same.trans h2
    rw [List.append_nil] at h3
    exact h3.mono (by omega) (by omega)
  refine ⟨U, ?_, .threw T.heap.size, hrun, hend, .inr E, G, locs, hp, hR.kept hfr.2, ⟨Nat.le_trans hS.1 hfr.1, fun q h1 h2 => by rw [hfr.2 q (Nat.lt_of_lt_of_le h1 hS.1)]; exact hS.2.1 q h1 h2⟩, hWs, hall, hS.2.2, _, ce, rfl, hce, hO.vm, hcl⟩
  refine st1 _ ?_
  show Steps p.tables e below (T1.setTop { method := m, pc := pc + 3, locals := L, stack := .ref T.heap.size :: st, locked := none }) _
  jvm_step X₁.here [X₁.here.top, hX.ex, d3', Value.category]
  exact hsteps
end
section
theorem d_S_init_0 : decode b_S_init 0 = .ok (.aload_n 0, 1) := by decide +kernel
theorem d_S_init_1 : decode b_S_init 1 = .ok (.invokespecial 3, 3) := by decide +kernel
theorem d_S_init_4 : decode b_S_init 4 = .ok (.aload_n 0, 1) := by decide +kernel
theorem d_S_init_5 : decode b_S_init 5 = .ok (.iconst 4, 1) := by decide +kernel
theorem d_S_init_6 : decode b_S_init 6 = .ok (.newarray .int, 2) := by decide +kernel
theorem d_S_init_8 : decode b_S_init 8 = .ok (.putfield 9, 3) := by decide +kernel
theorem d_S_init_11 : decode b_S_init 11 = .ok (.aload_n 0, 1) := by decide +kernel
theorem d_S_init_12 : decode b_S_init 12 = .ok (.bipush 24, 2) := by decide +kernel
theorem d_S_init_14 : decode b_S_init 14 = .ok (.anewarray 13, 3) := by decide +kernel
theorem d_S_init_17 : decode b_S_init 17 = .ok (.putfield 15, 3) := by decide +kernel
theorem d_S_init_20 : decode b_S_init 20 = .ok (.aload_n 0, 1) := by decide +kernel
theorem d_S_init_21 : decode b_S_init 21 = .ok (.iconst 4, 1) := by decide +kernel
theorem d_S_init_22 : decode b_S_init 22 = .ok (.anewarray 19, 3) := by decide +kernel
theorem d_S_init_25 : decode b_S_init 25 = .ok (.putfield 21, 3) := by decide +kernel
theorem d_S_init_28 : decode b_S_init 28 = .ok (.aload_n 0, 1) := by decide +kernel
theorem d_S_init_29 : decode b_S_init 29 = .ok (.bipush 6, 2) := by decide +kernel
theorem d_S_init_31 : decode b_S_init 31 = .ok (.newarray .int, 2) := by decide +kernel
theorem d_S_init_33 : decode b_S_init 33 = .ok (.putfield 25, 3) := by decide +kernel
theorem d_S_init_36 : decode b_S_init 36 = .ok (.aload_n 0, 1) := by decide +kernel
theorem d_S_init_37 : decode b_S_init 37 = .ok (.bipush 6, 2) := by decide +kernel
theorem d_S_init_39 : decode b_S_init 39 = .ok (.newarray .int, 2) := by decide +kernel
theorem d_S_init_41 : decode b_S_init 41 = .ok (.putfield 28, 3) := by decide +kernel
theorem d_S_init_44 : decode b_S_init 44 = .ok (.aload_n 0, 1) := by decide +kernel
theorem d_S_init_45 : decode b_S_init 45 = .ok (.bipush 8, 2) := by decide +kernel
theorem d_S_init_47 : decode b_S_init 47 = .ok (.newarray .int, 2) := by decide +kernel
theorem d_S_init_49 : decode b_S_init 49 = .ok (.putfield 31, 3) := by decide +kernel
theorem d_S_init_52 : decode b_S_init 52 = .ok (.aload_n 0, 1) := by decide +kernel
theorem d_S_init_53 : decode b_S_init 53 = .ok (.bipush 8, 2) := by decide +kernel
theorem d_S_init_55 : decode b_S_init 55 = .ok (.newarray .int, 2) := by decide +kernel
theorem d_S_init_57 : decode b_S_init 57 = .ok (.putfield 34, 3) := by decide +kernel
theorem d_S_init_60 : decode b_S_init 60 = .ok (.aload_n 0, 1) := by decide +kernel
theorem d_S_init_61 : decode b_S_init 61 = .ok (.bipush 24, 2) := by decide +kernel
theorem d_S_init_63 : decode b_S_init 63 = .ok (.anewarray 37, 3) := by decide +kernel
theorem d_S_init_66 : decode b_S_init 66 = .ok (.putfield 39, 3) := by decide +kernel
theorem d_S_init_69 : decode b_S_init 69 = .ok (.sipush 4096, 3) := by decide +kernel
theorem d_S_init_72 : decode b_S_init 72 = .ok (.newarray .long, 2) := by decide +kernel
theorem d_S_init_74 : decode b_S_init 74 = .ok (.astore_n 1, 1) := by decide +kernel
theorem d_S_init_75 : decode b_S_init 75 = .ok (.aload_n 1, 1) := by decide +kernel
theorem d_S_init_76 : decode b_S_init 76 = .ok (.ldc2_w 43, 3) := by decide +kernel
theorem d_S_init_79 : decode b_S_init 79 = .ok (.invokestatic 45, 3) := by decide +kernel
theorem d_S_init_82 : decode b_S_init 82 = .ok (.aload_n 0, 1) := by decide +kernel
theorem d_S_init_83 : decode b_S_init 83 = .ok (.getfield 15, 3) := by decide +kernel
theorem d_S_init_86 : decode b_S_init 86 = .ok (.iconst 0, 1) := by decide +kernel
theorem d_S_init_87 : decode b_S_init 87 = .ok (.new 13, 3) := by decide +kernel
theorem d_S_init_90 : decode b_S_init 90 = .ok (.dup, 1) := by decide +kernel
theorem d_S_init_91 : decode b_S_init 91 = .ok (.iconst (-1), 1) := by decide +kernel
theorem d_S_init_92 : decode b_S_init 92 = .ok (.iconst (-1), 1) := by decide +kernel
theorem d_S_init_93 : decode b_S_init 93 = .ok (.iconst 1, 1) := by decide +kernel
theorem d_S_init_94 : decode b_S_init 94 = .ok (.aload_n 1, 1) := by decide +kernel
theorem d_S_init_95 : decode b_S_init 95 = .ok (.invokespecial 51, 3) := by decide +kernel
theorem d_S_init_98 : decode b_S_init 98 = .ok (.aastore, 1) := by decide +kernel
theorem d_S_init_99 : decode b_S_init 99 = .ok (.aload_n 0, 1) := by decide +kernel
theorem d_S_init_100 : decode b_S_init 100 = .ok (.iconst 1, 1) := by decide +kernel
theorem d_S_init_101 : decode b_S_init 101 = .ok (.putfield 54, 3) := by decide +kernel
theorem d_S_init_104 : decode b_S_init 104 = .ok (.aload_n 0, 1) := by decide +kernel
theorem d_S_init_105 : decode b_S_init 105 = .ok (.getfield 21, 3) := by decide +kernel
theorem d_S_init_108 : decode b_S_init 108 = .ok (.iconst 0, 1) := by decide +kernel
theorem d_S_init_109 : decode b_S_init 109 = .ok (.new 19, 3) := by decide +kernel
theorem d_S_init_112 : decode b_S_init 112 = .ok (.dup, 1) := by decide +kernel
theorem d_S_init_113 : decode b_S_init 113 = .ok (.invokespecial 58, 3) := by decide +kernel
theorem d_S_init_116 : decode b_S_init 116 = .ok (.aastore, 1) := by decide +kernel
theorem d_S_init_117 : decode b_S_init 117 = .ok (.aload_n 0, 1) := by decide +kernel
theorem d_S_init_118 : decode b_S_init 118 = .ok (.getfield 21, 3) := by decide +kernel
theorem d_S_init_121 : decode b_S_init 121 = .ok (.iconst 0, 1) := by decide +kernel
theorem d_S_init_122 : decode b_S_init 122 = .ok (.aaload, 1) := by decide +kernel
theorem d_S_init_123 : decode b_S_init 123 = .ok (.iconst 0, 1) := by decide +kernel
theorem d_S_init_124 : decode b_S_init 124 = .ok (.aload_n 1, 1) := by decide +kernel
theorem d_S_init_125 : decode b_S_init 125 = .ok (.invokevirtual 59, 3) := by decide +kernel
theorem d_S_init_128 : decode b_S_init 128 = .ok (.aload_n 0, 1) := by decide +kernel
theorem d_S_init_129 : decode b_S_init 129 = .ok (.bipush 32, 2) := by decide +kernel
theorem d_S_init_131 : decode b_S_init 131 = .ok (.putfield 63, 3) := by decide +kernel
theorem d_S_init_134 : decode b_S_init 134 = .ok (.aload_n 0, 1) := by decide +kernel
theorem d_S_init_135 : decode b_S_init 135 = .ok (.bipush 32, 2) := by decide +kernel
theorem d_S_init_137 : decode b_S_init 137 = .ok (.putfield 66, 3) := by decide +kernel
theorem d_S_init_140 : decode b_S_init 140 = .ok (.aload_n 0, 1) := by decide +kernel
theorem d_S_init_141 : decode b_S_init 141 = .ok (.getfield 31, 3) := by decide +kernel
theorem d_S_init_144 : decode b_S_init 144 = .ok (.ldc 69, 2) := by decide +kernel
theorem d_S_init_146 : decode b_S_init 146 = .ok (.invokestatic 70, 3) := by decide +kernel
theorem d_S_init_149 : decode b_S_init 149 = .ok (.aload_n 0, 1) := by decide +kernel
theorem d_S_init_150 : decode b_S_init 150 = .ok (.getfield 34, 3) := by decide +kernel
theorem d_S_init_153 : decode b_S_init 153 = .ok (.ldc 69, 2) := by decide +kernel
theorem d_S_init_155 : decode b_S_init 155 = .ok (.invokestatic 70, 3) := by decide +kernel
theorem d_S_init_158 : decode b_S_init 158 = .ok (.return_, 1) := by decide +kernel
theorem d_A_fillJ_0 : decode b_A_fillJ 0 = .ok (.iconst 0, 1) := by decide +kernel
theorem d_A_fillJ_1 : decode b_A_fillJ 1 = .ok (.istore_n 3, 1) := by decide +kernel
theorem d_A_fillJ_2 : decode b_A_fillJ 2 = .ok (.aload_n 0, 1) := by decide +kernel
theorem d_A_fillJ_3 : decode b_A_fillJ 3 = .ok (.arraylength, 1) := by decide +kernel
theorem d_A_fillJ_4 : decode b_A_fillJ 4 = .ok (.istore 4, 2) := by decide +kernel
theorem d_A_fillJ_6 : decode b_A_fillJ 6 = .ok (.iload_n 3, 1) := by decide +kernel
theorem d_A_fillJ_7 : decode b_A_fillJ 7 = .ok (.iload 4, 2) := by decide +kernel
theorem d_A_fillJ_9 : decode b_A_fillJ 9 = .ok (.if_icmp .ge 13, 3) := by decide +kernel
theorem d_A_fillJ_12 : decode b_A_fillJ 12 = .ok (.aload_n 0, 1) := by decide +kernel
theorem d_A_fillJ_13 : decode b_A_fillJ 13 = .ok (.iload_n 3, 1) := by decide +kernel
theorem d_A_fillJ_14 : decode b_A_fillJ 14 = .ok (.lload_n 1, 1) := by decide +kernel
theorem d_A_fillJ_15 : decode b_A_fillJ 15 = .ok (.lastore, 1) := by decide +kernel
theorem d_A_fillJ_16 : decode b_A_fillJ 16 = .ok (.iinc 3 1, 3) := by decide +kernel
theorem d_A_fillJ_19 : decode b_A_fillJ 19 = .ok (.goto (-13), 3) := by decide +kernel
theorem d_A_fillJ_22 : decode b_A_fillJ 22 = .ok (.return_, 1) := by decide +kernel
theorem d_C_init_0 : decode b_C_init 0 = .ok (.aload_n 0, 1) := by decide +kernel
theorem d_C_init_1 : decode b_C_init 1 = .ok (.invokespecial 1, 3) := by decide +kernel
theorem d_C_init_4 : decode b_C_init 4 = .ok (.aload_n 0, 1) := by decide +kernel
theorem d_C_init_5 : decode b_C_init 5 = .ok (.iload_n 1, 1) := by decide +kernel
theorem d_C_init_6 : decode b_C_init 6 = .ok (.putfield 7, 3) := by decide +kernel
theorem d_C_init_9 : decode b_C_init 9 = .ok (.aload_n 0, 1) := by decide +kernel
theorem d_C_init_10 : decode b_C_init 10 = .ok (.iload_n 2, 1) := by decide +kernel
theorem d_C_init_11 : decode b_C_init 11 = .ok (.putfield 13, 3) := by decide +kernel
theorem d_C_init_14 : decode b_C_init 14 = .ok (.aload_n 0, 1) := by decide +kernel
theorem d_C_init_15 : decode b_C_init 15 = .ok (.iload_n 3, 1) := by decide +kernel
theorem d_C_init_16 : decode b_C_init 16 = .ok (.putfield 16, 3) := by decide +kernel
theorem d_C_init_19 : decode b_C_init 19 = .ok (.aload_n 0, 1) := by decide +kernel
theorem d_C_init_20 : decode b_C_init 20 = .ok (.aload 4, 2) := by decide +kernel
theorem d_C_init_22 : decode b_C_init 22 = .ok (.putfield 19, 3) := by decide +kernel
theorem d_C_init_25 : decode b_C_init 25 = .ok (.return_, 1) := by decide +kernel
theorem d_B_init_0 : decode b_B_init 0 = .ok (.aload_n 0, 1) := by decide +kernel
theorem d_B_init_1 : decode b_B_init 1 = .ok (.invokespecial 3, 3) := by decide +kernel
theorem d_B_init_4 : decode b_B_init 4 = .ok (.aload_n 0, 1) := by decide +kernel
theorem d_B_init_5 : decode b_B_init 5 = .ok (.sipush 4096, 3) := by decide +kernel
theorem d_B_init_8 : decode b_B_init 8 = .ok (.newarray .long, 2) := by decide +kernel
theorem d_B_init_10 : decode b_B_init 10 = .ok (.putfield 9, 3) := by decide +kernel
theorem d_B_init_13 : decode b_B_init 13 = .ok (.return_, 1) := by decide +kernel
theorem d_B_startAt_0 : decode b_B_startAt 0 = .ok (.aload_n 2, 1) := by decide +kernel
theorem d_B_startAt_1 : decode b_B_startAt 1 = .ok (.iconst 0, 1) := by decide +kernel
theorem d_B_startAt_2 : decode b_B_startAt 2 = .ok (.aload_n 0, 1) := by decide +kernel
theorem d_B_startAt_3 : decode b_B_startAt 3 = .ok (.getfield 9, 3) := by decide +kernel
theorem d_B_startAt_6 : decode b_B_startAt 6 = .ok (.iconst 0, 1) := by decide +kernel
theorem d_B_startAt_7 : decode b_B_startAt 7 = .ok (.sipush 4096, 3) := by decide +kernel
theorem d_B_startAt_10 : decode b_B_startAt 10 = .ok (.invokestatic 15, 3) := by decide +kernel
theorem d_B_startAt_13 : decode b_B_startAt 13 = .ok (.aload_n 0, 1) := by decide +kernel
theorem d_B_startAt_14 : decode b_B_startAt 14 = .ok (.iconst 1, 1) := by decide +kernel
theorem d_B_startAt_15 : decode b_B_startAt 15 = .ok (.putfield 21, 3) := by decide +kernel
theorem d_B_startAt_18 : decode b_B_startAt 18 = .ok (.aload_n 0, 1) := by decide +kernel
theorem d_B_startAt_19 : decode b_B_startAt 19 = .ok (.iload_n 1, 1) := by decide +kernel
theorem d_B_startAt_20 : decode b_B_startAt 20 = .ok (.invokevirtual 25, 3) := by decide +kernel
theorem d_B_startAt_23 : decode b_B_startAt 23 = .ok (.return_, 1) := by decide +kernel
theorem d_B_restAt_0 : decode b_B_restAt 0 = .ok (.aload_n 0, 1) := by decide +kernel
theorem d_B_restAt_1 : decode b_B_restAt 1 = .ok (.iload_n 1, 1) := by decide +kernel
theorem d_B_restAt_2 : decode b_B_restAt 2 = .ok (.putfield 29, 3) := by decide +kernel
theorem d_B_restAt_5 : decode b_B_restAt 5 = .ok (.aload_n 0, 1) := by decide +kernel
theorem d_B_restAt_6 : decode b_B_restAt 6 = .ok (.iconst (-1), 1) := by decide +kernel
theorem d_B_restAt_7 : decode b_B_restAt 7 = .ok (.putfield 33, 3) := by decide +kernel
theorem d_B_restAt_10 : decode b_B_restAt 10 = .ok (.aload_n 0, 1) := by decide +kernel
theorem d_B_restAt_11 : decode b_B_restAt 11 = .ok (.getfield 36, 3) := by decide +kernel
theorem d_B_restAt_14 : decode b_B_restAt 14 = .ok (.ifnull 10, 3) := by decide +kernel
theorem d_B_restAt_17 : decode b_B_restAt 17 = .ok (.aload_n 0, 1) := by decide +kernel
theorem d_B_restAt_18 : decode b_B_restAt 18 = .ok (.getfield 36, 3) := by decide +kernel
theorem d_B_restAt_21 : decode b_B_restAt 21 = .ok (.invokevirtual 40, 3) := by decide +kernel
theorem d_B_restAt_24 : decode b_B_restAt 24 = .ok (.return_, 1) := by decide +kernel
theorem d_K_forget_0 : decode b_K_forget 0 = .ok (.aload_n 0, 1) := by decide +kernel
theorem d_K_forget_1 : decode b_K_forget 1 = .ok (.iconst 0, 1) := by decide +kernel
theorem d_K_forget_2 : decode b_K_forget 2 = .ok (.putfield 28, 3) := by decide +kernel
theorem d_K_forget_5 : decode b_K_forget 5 = .ok (.aload_n 0, 1) := by decide +kernel
theorem d_K_forget_6 : decode b_K_forget 6 = .ok (.iconst 0, 1) := by decide +kernel
theorem d_K_forget_7 : decode b_K_forget 7 = .ok (.putfield 32, 3) := by decide +kernel
theorem d_K_forget_10 : decode b_K_forget 10 = .ok (.return_, 1) := by decide +kernel
theorem d_A_fillI_0 : decode b_A_fillI 0 = .ok (.iconst 0, 1) := by decide +kernel
theorem d_A_fillI_1 : decode b_A_fillI 1 = .ok (.istore_n 2, 1) := by decide +kernel
theorem d_A_fillI_2 : decode b_A_fillI 2 = .ok (.aload_n 0, 1) := by decide +kernel
theorem d_A_fillI_3 : decode b_A_fillI 3 = .ok (.arraylength, 1) := by decide +kernel
theorem d_A_fillI_4 : decode b_A_fillI 4 = .ok (.istore_n 3, 1) := by decide +kernel
theorem d_A_fillI_5 : decode b_A_fillI 5 = .ok (.iload_n 2, 1) := by decide +kernel
theorem d_A_fillI_6 : decode b_A_fillI 6 = .ok (.iload_n 3, 1) := by decide +kernel
theorem d_A_fillI_7 : decode b_A_fillI 7 = .ok (.if_icmp .ge 13, 3) := by decide +kernel
theorem d_A_fillI_10 : decode b_A_fillI 10 = .ok (.aload_n 0, 1) := by decide +kernel
theorem d_A_fillI_11 : decode b_A_fillI 11 = .ok (.iload_n 2, 1) := by decide +kernel
theorem d_A_fillI_12 : decode b_A_fillI 12 = .ok (.iload_n 1, 1) := by decide +kernel
theorem d_A_fillI_13 : decode b_A_fillI 13 = .ok (.iastore, 1) := by decide +kernel
theorem d_A_fillI_14 : decode b_A_fillI 14 = .ok (.iinc 2 1, 3) := by decide +kernel
theorem d_A_fillI_17 : decode b_A_fillI 17 = .ok (.goto (-12), 3) := by decide +kernel
theorem d_A_fillI_20 : decode b_A_fillI 20 = .ok (.return_, 1) := by decide +kernel
theorem d_S_kind_0 : decode b_S_kind 0 = .ok (.iload_n 1, 1) := by decide +kernel
theorem d_S_kind_1 : decode b_S_kind 1 = .ok (.invokestatic 73, 3) := by decide +kernel
theorem d_S_kind_4 : decode b_S_kind 4 = .ok (.ifCond .eq 12, 3) := by decide +kernel
theorem d_S_kind_7 : decode b_S_kind 7 = .ok (.iload_n 2, 1) := by decide +kernel
theorem d_S_kind_8 : decode b_S_kind 8 = .ok (.ifCond .lt 8, 3) := by decide +kernel
theorem d_S_kind_11 : decode b_S_kind 11 = .ok (.iload_n 2, 1) := by decide +kernel
theorem d_S_kind_12 : decode b_S_kind 12 = .ok (.iconst 4, 1) := by decide +kernel
theorem d_S_kind_13 : decode b_S_kind 13 = .ok (.if_icmp .lt 5, 3) := by decide +kernel
theorem d_S_kind_16 : decode b_S_kind 16 = .ok (.iconst 0, 1) := by decide +kernel
theorem d_S_kind_17 : decode b_S_kind 17 = .ok (.ireturn, 1) := by decide +kernel
theorem d_S_kind_18 : decode b_S_kind 18 = .ok (.aload_n 0, 1) := by decide +kernel
theorem d_S_kind_19 : decode b_S_kind 19 = .ok (.getfield 9, 3) := by decide +kernel
theorem d_S_kind_22 : decode b_S_kind 22 = .ok (.iload_n 1, 1) := by decide +kernel
theorem d_S_kind_23 : decode b_S_kind 23 = .ok (.iload_n 2, 1) := by decide +kernel
theorem d_S_kind_24 : decode b_S_kind 24 = .ok (.iastore, 1) := by decide +kernel
theorem d_S_kind_25 : decode b_S_kind 25 = .ok (.iconst 1, 1) := by decide +kernel
theorem d_S_kind_26 : decode b_S_kind 26 = .ok (.ireturn, 1) := by decide +kernel
theorem d_S_isLayer_0 : decode b_S_isLayer 0 = .ok (.iload_n 0, 1) := by decide +kernel
theorem d_S_isLayer_1 : decode b_S_isLayer 1 = .ok (.ifCond .lt 12, 3) := by decide +kernel
theorem d_S_isLayer_4 : decode b_S_isLayer 4 = .ok (.iload_n 0, 1) := by decide +kernel
theorem d_S_isLayer_5 : decode b_S_isLayer 5 = .ok (.iconst 4, 1) := by decide +kernel
theorem d_S_isLayer_6 : decode b_S_isLayer 6 = .ok (.if_icmp .ge 7, 3) := by decide +kernel
theorem d_S_isLayer_9 : decode b_S_isLayer 9 = .ok (.iconst 1, 1) := by decide +kernel
theorem d_S_isLayer_10 : decode b_S_isLayer 10 = .ok (.goto 4, 3) := by decide +kernel
theorem d_S_isLayer_13 : decode b_S_isLayer 13 = .ok (.iconst 0, 1) := by decide +kernel
theorem d_S_isLayer_14 : decode b_S_isLayer 14 = .ok (.ireturn, 1) := by decide +kernel
theorem d_S_drop_0 : decode b_S_drop 0 = .ok (.aload_n 0, 1) := by decide +kernel
theorem d_S_drop_1 : decode b_S_drop 1 = .ok (.iload_n 1, 1) := by decide +kernel
theorem d_S_drop_2 : decode b_S_drop 2 = .ok (.invokevirtual 84, 3) := by decide +kernel
theorem d_S_drop_5 : decode b_S_drop 5 = .ok (.astore_n 2, 1) := by decide +kernel
theorem d_S_drop_6 : decode b_S_drop 6 = .ok (.aload_n 2, 1) := by decide +kernel
theorem d_S_drop_7 : decode b_S_drop 7 = .ok (.ifnonnull 5, 3) := by decide +kernel
theorem d_S_drop_10 : decode b_S_drop 10 = .ok (.iconst 0, 1) := by decide +kernel
theorem d_S_drop_11 : decode b_S_drop 11 = .ok (.ireturn, 1) := by decide +kernel
theorem d_S_drop_12 : decode b_S_drop 12 = .ok (.aload_n 2, 1) := by decide +kernel
theorem d_S_drop_13 : decode b_S_drop 13 = .ok (.iconst 0, 1) := by decide +kernel
theorem d_S_drop_14 : decode b_S_drop 14 = .ok (.putfield 95, 3) := by decide +kernel
theorem d_S_drop_17 : decode b_S_drop 17 = .ok (.iconst 1, 1) := by decide +kernel
theorem d_S_drop_18 : decode b_S_drop 18 = .ok (.ireturn, 1) := by decide +kernel
theorem d_S_branchAt_0 : decode b_S_branchAt 0 = .ok (.iload_n 1, 1) := by decide +kernel
theorem d_S_branchAt_1 : decode b_S_branchAt 1 = .ok (.ifCond .lt 29, 3) := by decide +kernel
theorem d_S_branchAt_4 : decode b_S_branchAt 4 = .ok (.iload_n 1, 1) := by decide +kernel
theorem d_S_branchAt_5 : decode b_S_branchAt 5 = .ok (.iconst 4, 1) := by decide +kernel
theorem d_S_branchAt_6 : decode b_S_branchAt 6 = .ok (.if_icmp .ge 24, 3) := by decide +kernel
theorem d_S_branchAt_9 : decode b_S_branchAt 9 = .ok (.aload_n 0, 1) := by decide +kernel
theorem d_S_branchAt_10 : decode b_S_branchAt 10 = .ok (.getfield 21, 3) := by decide +kernel
theorem d_S_branchAt_13 : decode b_S_branchAt 13 = .ok (.iload_n 1, 1) := by decide +kernel
theorem d_S_branchAt_14 : decode b_S_branchAt 14 = .ok (.aaload, 1) := by decide +kernel
theorem d_S_branchAt_15 : decode b_S_branchAt 15 = .ok (.ifnull 15, 3) := by decide +kernel
theorem d_S_branchAt_18 : decode b_S_branchAt 18 = .ok (.aload_n 0, 1) := by decide +kernel
theorem d_S_branchAt_19 : decode b_S_branchAt 19 = .ok (.getfield 21, 3) := by decide +kernel
theorem d_S_branchAt_22 : decode b_S_branchAt 22 = .ok (.iload_n 1, 1) := by decide +kernel
theorem d_S_branchAt_23 : decode b_S_branchAt 23 = .ok (.aaload, 1) := by decide +kernel
theorem d_S_branchAt_24 : decode b_S_branchAt 24 = .ok (.getfield 95, 3) := by decide +kernel
theorem d_S_branchAt_27 : decode b_S_branchAt 27 = .ok (.ifCond .ne 5, 3) := by decide +kernel
theorem d_S_branchAt_30 : decode b_S_branchAt 30 = .ok (.aconst_null, 1) := by decide +kernel
theorem d_S_branchAt_31 : decode b_S_branchAt 31 = .ok (.areturn, 1) := by decide +kernel
theorem d_S_branchAt_32 : decode b_S_branchAt 32 = .ok (.aload_n 0, 1) := by decide +kernel
theorem d_S_branchAt_33 : decode b_S_branchAt 33 = .ok (.getfield 21, 3) := by decide +kernel
theorem d_S_branchAt_36 : decode b_S_branchAt 36 = .ok (.iload_n 1, 1) := by decide +kernel
theorem d_S_branchAt_37 : decode b_S_branchAt 37 = .ok (.aaload, 1) := by decide +kernel
theorem d_S_branchAt_38 : decode b_S_branchAt 38 = .ok (.areturn, 1) := by decide +kernel
theorem d_S_region_0 : decode b_S_region 0 = .ok (.iload_n 3, 1) := by decide +kernel
theorem d_S_region_1 : decode b_S_region 1 = .ok (.iconst 1, 1) := by decide +kernel
theorem d_S_region_2 : decode b_S_region 2 = .ok (.if_icmp .lt 26, 3) := by decide +kernel
theorem d_S_region_5 : decode b_S_region 5 = .ok (.iload 4, 2) := by decide +kernel
theorem d_S_region_7 : decode b_S_region 7 = .ok (.iconst 1, 1) := by decide +kernel
theorem d_S_region_8 : decode b_S_region 8 = .ok (.if_icmp .lt 20, 3) := by decide +kernel
theorem d_S_region_11 : decode b_S_region 11 = .ok (.iload_n 1, 1) := by decide +kernel
theorem d_S_region_12 : decode b_S_region 12 = .ok (.iload_n 3, 1) := by decide +kernel
theorem d_S_region_13 : decode b_S_region 13 = .ok (.invokestatic 99, 3) := by decide +kernel
theorem d_S_region_16 : decode b_S_region 16 = .ok (.ifCond .eq 12, 3) := by decide +kernel
theorem d_S_region_19 : decode b_S_region 19 = .ok (.iload_n 2, 1) := by decide +kernel
theorem d_S_region_20 : decode b_S_region 20 = .ok (.iload 4, 2) := by decide +kernel
theorem d_S_region_22 : decode b_S_region 22 = .ok (.invokestatic 99, 3) := by decide +kernel
theorem d_S_region_25 : decode b_S_region 25 = .ok (.ifCond .ne 5, 3) := by decide +kernel
theorem d_S_region_28 : decode b_S_region 28 = .ok (.iconst 0, 1) := by decide +kernel
theorem d_S_region_29 : decode b_S_region 29 = .ok (.ireturn, 1) := by decide +kernel
theorem d_S_region_30 : decode b_S_region 30 = .ok (.aload_n 0, 1) := by decide +kernel
theorem d_S_region_31 : decode b_S_region 31 = .ok (.iload_n 1, 1) := by decide +kernel
theorem d_S_region_32 : decode b_S_region 32 = .ok (.putfield 103, 3) := by decide +kernel
theorem d_S_region_35 : decode b_S_region 35 = .ok (.aload_n 0, 1) := by decide +kernel
theorem d_S_region_36 : decode b_S_region 36 = .ok (.iload_n 2, 1) := by decide +kernel
theorem d_S_region_37 : decode b_S_region 37 = .ok (.putfield 106, 3) := by decide +kernel
theorem d_S_region_40 : decode b_S_region 40 = .ok (.aload_n 0, 1) := by decide +kernel
theorem d_S_region_41 : decode b_S_region 41 = .ok (.iload_n 3, 1) := by decide +kernel
theorem d_S_region_42 : decode b_S_region 42 = .ok (.putfield 63, 3) := by decide +kernel
theorem d_S_region_45 : decode b_S_region 45 = .ok (.aload_n 0, 1) := by decide +kernel
theorem d_S_region_46 : decode b_S_region 46 = .ok (.iload 4, 2) := by decide +kernel
theorem d_S_region_48 : decode b_S_region 48 = .ok (.putfield 66, 3) := by decide +kernel
theorem d_S_region_51 : decode b_S_region 51 = .ok (.iconst 1, 1) := by decide +kernel
theorem d_S_region_52 : decode b_S_region 52 = .ok (.ireturn, 1) := by decide +kernel
theorem d_S_fits_0 : decode b_S_fits 0 = .ok (.iload_n 0, 1) := by decide +kernel
theorem d_S_fits_1 : decode b_S_fits 1 = .ok (.ifCond .lt 21, 3) := by decide +kernel
theorem d_S_fits_4 : decode b_S_fits 4 = .ok (.iload_n 1, 1) := by decide +kernel
theorem d_S_fits_5 : decode b_S_fits 5 = .ok (.bipush 32, 2) := by decide +kernel
theorem d_S_fits_7 : decode b_S_fits 7 = .ok (.if_icmp .gt 15, 3) := by decide +kernel
theorem d_S_fits_10 : decode b_S_fits 10 = .ok (.iload_n 0, 1) := by decide +kernel
theorem d_S_fits_11 : decode b_S_fits 11 = .ok (.bipush 32, 2) := by decide +kernel
theorem d_S_fits_13 : decode b_S_fits 13 = .ok (.iload_n 1, 1) := by decide +kernel
theorem d_S_fits_14 : decode b_S_fits 14 = .ok (.isub, 1) := by decide +kernel
theorem d_S_fits_15 : decode b_S_fits 15 = .ok (.if_icmp .gt 7, 3) := by decide +kernel
theorem d_S_fits_18 : decode b_S_fits 18 = .ok (.iconst 1, 1) := by decide +kernel
theorem d_S_fits_19 : decode b_S_fits 19 = .ok (.goto 4, 3) := by decide +kernel
theorem d_S_fits_22 : decode b_S_fits 22 = .ok (.iconst 0, 1) := by decide +kernel
theorem d_S_fits_23 : decode b_S_fits 23 = .ok (.ireturn, 1) := by decide +kernel
theorem d_S_corner_0 : decode b_S_corner 0 = .ok (.iload_n 1, 1) := by decide +kernel
theorem d_S_corner_1 : decode b_S_corner 1 = .ok (.ifCond .lt 23, 3) := by decide +kernel
theorem d_S_corner_4 : decode b_S_corner 4 = .ok (.iload_n 1, 1) := by decide +kernel
theorem d_S_corner_5 : decode b_S_corner 5 = .ok (.bipush 6, 2) := by decide +kernel
theorem d_S_corner_7 : decode b_S_corner 7 = .ok (.if_icmp .ge 17, 3) := by decide +kernel
theorem d_S_corner_10 : decode b_S_corner 10 = .ok (.iload_n 2, 1) := by decide +kernel
theorem d_S_corner_11 : decode b_S_corner 11 = .ok (.invokestatic 125, 3) := by decide +kernel
theorem d_S_corner_14 : decode b_S_corner 14 = .ok (.ifCond .eq 10, 3) := by decide +kernel
theorem d_S_corner_17 : decode b_S_corner 17 = .ok (.iload_n 3, 1) := by decide +kernel
theorem d_S_corner_18 : decode b_S_corner 18 = .ok (.invokestatic 125, 3) := by decide +kernel
theorem d_S_corner_21 : decode b_S_corner 21 = .ok (.ifCond .ne 5, 3) := by decide +kernel
theorem d_S_corner_24 : decode b_S_corner 24 = .ok (.iconst 0, 1) := by decide +kernel
theorem d_S_corner_25 : decode b_S_corner 25 = .ok (.ireturn, 1) := by decide +kernel
theorem d_S_corner_26 : decode b_S_corner 26 = .ok (.aload_n 0, 1) := by decide +kernel
theorem d_S_corner_27 : decode b_S_corner 27 = .ok (.getfield 25, 3) := by decide +kernel
theorem d_S_corner_30 : decode b_S_corner 30 = .ok (.iload_n 1, 1) := by decide +kernel
theorem d_S_corner_31 : decode b_S_corner 31 = .ok (.iload_n 2, 1) := by decide +kernel
theorem d_S_corner_32 : decode b_S_corner 32 = .ok (.iastore, 1) := by decide +kernel
theorem d_S_corner_33 : decode b_S_corner 33 = .ok (.aload_n 0, 1) := by decide +kernel
theorem d_S_corner_34 : decode b_S_corner 34 = .ok (.getfield 28, 3) := by decide +kernel
theorem d_S_corner_37 : decode b_S_corner 37 = .ok (.iload_n 1, 1) := by decide +kernel
theorem d_S_corner_38 : decode b_S_corner 38 = .ok (.iload_n 3, 1) := by decide +kernel
theorem d_S_corner_39 : decode b_S_corner 39 = .ok (.iastore, 1) := by decide +kernel
theorem d_S_corner_40 : decode b_S_corner 40 = .ok (.iconst 1, 1) := by decide +kernel
theorem d_S_corner_41 : decode b_S_corner 41 = .ok (.ireturn, 1) := by decide +kernel
theorem d_S_isPoint_0 : decode b_S_isPoint 0 = .ok (.iload_n 0, 1) := by decide +kernel
theorem d_S_isPoint_1 : decode b_S_isPoint 1 = .ok (.ifCond .lt 13, 3) := by decide +kernel
theorem d_S_isPoint_4 : decode b_S_isPoint 4 = .ok (.iload_n 0, 1) := by decide +kernel
theorem d_S_isPoint_5 : decode b_S_isPoint 5 = .ok (.bipush 32, 2) := by decide +kernel
theorem d_S_isPoint_7 : decode b_S_isPoint 7 = .ok (.if_icmp .gt 7, 3) := by decide +kernel
theorem d_S_isPoint_10 : decode b_S_isPoint 10 = .ok (.iconst 1, 1) := by decide +kernel
theorem d_S_isPoint_11 : decode b_S_isPoint 11 = .ok (.goto 4, 3) := by decide +kernel
theorem d_S_isPoint_14 : decode b_S_isPoint 14 = .ok (.iconst 0, 1) := by decide +kernel
theorem d_S_isPoint_15 : decode b_S_isPoint 15 = .ok (.ireturn, 1) := by decide +kernel
theorem d_S_entry_0 : decode b_S_entry 0 = .ok (.iload_n 1, 1) := by decide +kernel
theorem d_S_entry_1 : decode b_S_entry 1 = .ok (.ifCond .lt 23, 3) := by decide +kernel
theorem d_S_entry_4 : decode b_S_entry 4 = .ok (.iload_n 1, 1) := by decide +kernel
theorem d_S_entry_5 : decode b_S_entry 5 = .ok (.bipush 8, 2) := by decide +kernel
theorem d_S_entry_7 : decode b_S_entry 7 = .ok (.if_icmp .ge 17, 3) := by decide +kernel
theorem d_S_entry_10 : decode b_S_entry 10 = .ok (.iload_n 2, 1) := by decide +kernel
theorem d_S_entry_11 : decode b_S_entry 11 = .ok (.invokestatic 139, 3) := by decide +kernel
theorem d_S_entry_14 : decode b_S_entry 14 = .ok (.ifCond .eq 10, 3) := by decide +kernel
theorem d_S_entry_17 : decode b_S_entry 17 = .ok (.iload_n 3, 1) := by decide +kernel
theorem d_S_entry_18 : decode b_S_entry 18 = .ok (.invokestatic 139, 3) := by decide +kernel
theorem d_S_entry_21 : decode b_S_entry 21 = .ok (.ifCond .ne 5, 3) := by decide +kernel
theorem d_S_entry_24 : decode b_S_entry 24 = .ok (.iconst 0, 1) := by decide +kernel
theorem d_S_entry_25 : decode b_S_entry 25 = .ok (.ireturn, 1) := by decide +kernel
theorem d_S_entry_26 : decode b_S_entry 26 = .ok (.aload_n 0, 1) := by decide +kernel
theorem d_S_entry_27 : decode b_S_entry 27 = .ok (.getfield 31, 3) := by decide +kernel
theorem d_S_entry_30 : decode b_S_entry 30 = .ok (.iload_n 1, 1) := by decide +kernel
theorem d_S_entry_31 : decode b_S_entry 31 = .ok (.iload_n 2, 1) := by decide +kernel
theorem d_S_entry_32 : decode b_S_entry 32 = .ok (.iastore, 1) := by decide +kernel
theorem d_S_entry_33 : decode b_S_entry 33 = .ok (.aload_n 0, 1) := by decide +kernel
theorem d_S_entry_34 : decode b_S_entry 34 = .ok (.getfield 34, 3) := by decide +kernel
theorem d_S_entry_37 : decode b_S_entry 37 = .ok (.iload_n 1, 1) := by decide +kernel
theorem d_S_entry_38 : decode b_S_entry 38 = .ok (.iload_n 3, 1) := by decide +kernel
theorem d_S_entry_39 : decode b_S_entry 39 = .ok (.iastore, 1) := by decide +kernel
theorem d_S_entry_40 : decode b_S_entry 40 = .ok (.iconst 1, 1) := by decide +kernel
theorem d_S_entry_41 : decode b_S_entry 41 = .ok (.ireturn, 1) := by decide +kernel
theorem d_S_isValue_0 : decode b_S_isValue 0 = .ok (.iload_n 0, 1) := by decide +kernel
theorem d_S_isValue_1 : decode b_S_isValue 1 = .ok (.ldc 69, 2) := by decide +kernel
theorem d_S_isValue_3 : decode b_S_isValue 3 = .ok (.if_icmp .eq 17, 3) := by decide +kernel
theorem d_S_isValue_6 : decode b_S_isValue 6 = .ok (.iload_n 0, 1) := by decide +kernel
theorem d_S_isValue_7 : decode b_S_isValue 7 = .ok (.ldc_w 288, 3) := by decide +kernel
theorem d_S_isValue_10 : decode b_S_isValue 10 = .ok (.if_icmp .lt 14, 3) := by decide +kernel
theorem d_S_isValue_13 : decode b_S_isValue 13 = .ok (.iload_n 0, 1) := by decide +kernel
theorem d_S_isValue_14 : decode b_S_isValue 14 = .ok (.ldc_w 289, 3) := by decide +kernel
theorem d_S_isValue_17 : decode b_S_isValue 17 = .ok (.if_icmp .gt 7, 3) := by decide +kernel
theorem d_S_isValue_20 : decode b_S_isValue 20 = .ok (.iconst 1, 1) := by decide +kernel
theorem d_S_isValue_21 : decode b_S_isValue 21 = .ok (.goto 4, 3) := by decide +kernel
theorem d_S_isValue_24 : decode b_S_isValue 24 = .ok (.iconst 0, 1) := by decide +kernel
theorem d_S_isValue_25 : decode b_S_isValue 25 = .ok (.ireturn, 1) := by decide +kernel
theorem d_S_conflict_0 : decode b_S_conflict 0 = .ok (.aload_n 0, 1) := by decide +kernel
theorem d_S_conflict_1 : decode b_S_conflict 1 = .ok (.iload_n 1, 1) := by decide +kernel
theorem d_S_conflict_2 : decode b_S_conflict 2 = .ok (.invokevirtual 84, 3) := by decide +kernel
theorem d_S_conflict_5 : decode b_S_conflict 5 = .ok (.astore 4, 2) := by decide +kernel
theorem d_S_conflict_7 : decode b_S_conflict 7 = .ok (.aload 4, 2) := by decide +kernel
theorem d_S_conflict_9 : decode b_S_conflict 9 = .ok (.ifnull 11, 3) := by decide +kernel
theorem d_S_conflict_12 : decode b_S_conflict 12 = .ok (.aload 4, 2) := by decide +kernel
theorem d_S_conflict_14 : decode b_S_conflict 14 = .ok (.getfield 209, 3) := by decide +kernel
theorem d_S_conflict_17 : decode b_S_conflict 17 = .ok (.ifnonnull 6, 3) := by decide +kernel
theorem d_S_conflict_20 : decode b_S_conflict 20 = .ok (.ldc 69, 2) := by decide +kernel
theorem d_S_conflict_22 : decode b_S_conflict 22 = .ok (.ireturn, 1) := by decide +kernel
theorem d_S_conflict_23 : decode b_S_conflict 23 = .ok (.aload 4, 2) := by decide +kernel
theorem d_S_conflict_25 : decode b_S_conflict 25 = .ok (.getfield 209, 3) := by decide +kernel
theorem d_S_conflict_28 : decode b_S_conflict 28 = .ok (.iload_n 2, 1) := by decide +kernel
theorem d_S_conflict_29 : decode b_S_conflict 29 = .ok (.iload_n 3, 1) := by decide +kernel
theorem d_S_conflict_30 : decode b_S_conflict 30 = .ok (.invokevirtual 213, 3) := by decide +kernel
theorem d_S_conflict_33 : decode b_S_conflict 33 = .ok (.ireturn, 1) := by decide +kernel
theorem d_K_tell_0 : decode b_K_tell 0 = .ok (.aload_n 0, 1) := by decide +kernel
theorem d_K_tell_1 : decode b_K_tell 1 = .ok (.iload_n 1, 1) := by decide +kernel
theorem d_K_tell_2 : decode b_K_tell 2 = .ok (.invokevirtual 35, 3) := by decide +kernel
theorem d_K_tell_5 : decode b_K_tell 5 = .ok (.ifCond .ne 6, 3) := by decide +kernel
theorem d_K_tell_8 : decode b_K_tell 8 = .ok (.ldc 39, 2) := by decide +kernel
theorem d_K_tell_10 : decode b_K_tell 10 = .ok (.ireturn, 1) := by decide +kernel
theorem d_K_tell_11 : decode b_K_tell 11 = .ok (.iload_n 2, 1) := by decide +kernel
theorem d_K_tell_12 : decode b_K_tell 12 = .ok (.tableswitch 110 0 6 #[44, 54, 64, 74, 81, 88, 95], 44) := by decide +kernel
theorem d_K_tell_56 : decode b_K_tell 56 = .ok (.aload_n 0, 1) := by decide +kernel
theorem d_K_tell_57 : decode b_K_tell 57 = .ok (.getfield 9, 3) := by decide +kernel
theorem d_K_tell_60 : decode b_K_tell 60 = .ok (.iload_n 1, 1) := by decide +kernel
theorem d_K_tell_61 : decode b_K_tell 61 = .ok (.iaload, 1) := by decide +kernel
theorem d_K_tell_62 : decode b_K_tell 62 = .ok (.invokestatic 40, 3) := by decide +kernel
theorem d_K_tell_65 : decode b_K_tell 65 = .ok (.ireturn, 1) := by decide +kernel
theorem d_K_tell_66 : decode b_K_tell 66 = .ok (.aload_n 0, 1) := by decide +kernel
theorem d_K_tell_67 : decode b_K_tell 67 = .ok (.getfield 9, 3) := by decide +kernel
theorem d_K_tell_70 : decode b_K_tell 70 = .ok (.iload_n 1, 1) := by decide +kernel
theorem d_K_tell_71 : decode b_K_tell 71 = .ok (.iaload, 1) := by decide +kernel
theorem d_K_tell_72 : decode b_K_tell 72 = .ok (.invokestatic 44, 3) := by decide +kernel
theorem d_K_tell_75 : decode b_K_tell 75 = .ok (.ireturn, 1) := by decide +kernel
theorem d_K_tell_76 : decode b_K_tell 76 = .ok (.aload_n 0, 1) := by decide +kernel
theorem d_K_tell_77 : decode b_K_tell 77 = .ok (.getfield 9, 3) := by decide +kernel
theorem d_K_tell_80 : decode b_K_tell 80 = .ok (.iload_n 1, 1) := by decide +kernel
theorem d_K_tell_81 : decode b_K_tell 81 = .ok (.iaload, 1) := by decide +kernel
theorem d_K_tell_82 : decode b_K_tell 82 = .ok (.invokestatic 47, 3) := by decide +kernel
theorem d_K_tell_85 : decode b_K_tell 85 = .ok (.ireturn, 1) := by decide +kernel
theorem d_K_tell_86 : decode b_K_tell 86 = .ok (.aload_n 0, 1) := by decide +kernel
theorem d_K_tell_87 : decode b_K_tell 87 = .ok (.getfield 15, 3) := by decide +kernel
theorem d_K_tell_90 : decode b_K_tell 90 = .ok (.iload_n 1, 1) := by decide +kernel
theorem d_K_tell_91 : decode b_K_tell 91 = .ok (.iaload, 1) := by decide +kernel
theorem d_K_tell_92 : decode b_K_tell 92 = .ok (.ireturn, 1) := by decide +kernel
theorem d_K_tell_93 : decode b_K_tell 93 = .ok (.aload_n 0, 1) := by decide +kernel
theorem d_K_tell_94 : decode b_K_tell 94 = .ok (.getfield 18, 3) := by decide +kernel
theorem d_K_tell_97 : decode b_K_tell 97 = .ok (.iload_n 1, 1) := by decide +kernel
theorem d_K_tell_98 : decode b_K_tell 98 = .ok (.iaload, 1) := by decide +kernel
theorem d_K_tell_99 : decode b_K_tell 99 = .ok (.ireturn, 1) := by decide +kernel
theorem d_K_tell_100 : decode b_K_tell 100 = .ok (.aload_n 0, 1) := by decide +kernel
theorem d_K_tell_101 : decode b_K_tell 101 = .ok (.getfield 21, 3) := by decide +kernel
theorem d_K_tell_104 : decode b_K_tell 104 = .ok (.iload_n 1, 1) := by decide +kernel
theorem d_K_tell_105 : decode b_K_tell 105 = .ok (.iaload, 1) := by decide +kernel
theorem d_K_tell_106 : decode b_K_tell 106 = .ok (.ireturn, 1) := by decide +kernel
theorem d_K_tell_107 : decode b_K_tell 107 = .ok (.aload_n 0, 1) := by decide +kernel
theorem d_K_tell_108 : decode b_K_tell 108 = .ok (.getfield 24, 3) := by decide +kernel
theorem d_K_tell_111 : decode b_K_tell 111 = .ok (.iload_n 1, 1) := by decide +kernel
theorem d_K_tell_112 : decode b_K_tell 112 = .ok (.baload, 1) := by decide +kernel
theorem d_K_tell_113 : decode b_K_tell 113 = .ok (.ifCond .eq 7, 3) := by decide +kernel
theorem d_K_tell_116 : decode b_K_tell 116 = .ok (.iconst 1, 1) := by decide +kernel
theorem d_K_tell_117 : decode b_K_tell 117 = .ok (.goto 4, 3) := by decide +kernel
theorem d_K_tell_120 : decode b_K_tell 120 = .ok (.iconst 0, 1) := by decide +kernel
theorem d_K_tell_121 : decode b_K_tell 121 = .ok (.ireturn, 1) := by decide +kernel
theorem d_K_tell_122 : decode b_K_tell 122 = .ok (.ldc 39, 2) := by decide +kernel
theorem d_K_tell_124 : decode b_K_tell 124 = .ok (.ireturn, 1) := by decide +kernel
theorem d_K_has_0 : decode b_K_has 0 = .ok (.iload_n 1, 1) := by decide +kernel
theorem d_K_has_1 : decode b_K_has 1 = .ok (.ifCond .lt 15, 3) := by decide +kernel
theorem d_K_has_4 : decode b_K_has 4 = .ok (.iload_n 1, 1) := by decide +kernel
theorem d_K_has_5 : decode b_K_has 5 = .ok (.aload_n 0, 1) := by decide +kernel
theorem d_K_has_6 : decode b_K_has 6 = .ok (.getfield 28, 3) := by decide +kernel
theorem d_K_has_9 : decode b_K_has 9 = .ok (.if_icmp .ge 7, 3) := by decide +kernel
theorem d_K_has_12 : decode b_K_has 12 = .ok (.iconst 1, 1) := by decide +kernel
theorem d_K_has_13 : decode b_K_has 13 = .ok (.goto 4, 3) := by decide +kernel
theorem d_K_has_16 : decode b_K_has 16 = .ok (.iconst 0, 1) := by decide +kernel
theorem d_K_has_17 : decode b_K_has 17 = .ok (.ireturn, 1) := by decide +kernel
theorem d_S_layerOf_0 : decode b_S_layerOf 0 = .ok (.iload_n 0, 1) := by decide +kernel
theorem d_S_layerOf_1 : decode b_S_layerOf 1 = .ok (.sipush 1024, 3) := by decide +kernel
theorem d_S_layerOf_4 : decode b_S_layerOf 4 = .ok (.idiv, 1) := by decide +kernel
theorem d_S_layerOf_5 : decode b_S_layerOf 5 = .ok (.ireturn, 1) := by decide +kernel
theorem d_S_xOf_0 : decode b_S_xOf 0 = .ok (.iload_n 0, 1) := by decide +kernel
theorem d_S_xOf_1 : decode b_S_xOf 1 = .ok (.bipush 32, 2) := by decide +kernel
theorem d_S_xOf_3 : decode b_S_xOf 3 = .ok (.irem, 1) := by decide +kernel
theorem d_S_xOf_4 : decode b_S_xOf 4 = .ok (.ireturn, 1) := by decide +kernel
theorem d_S_yOf_0 : decode b_S_yOf 0 = .ok (.iload_n 0, 1) := by decide +kernel
theorem d_S_yOf_1 : decode b_S_yOf 1 = .ok (.bipush 32, 2) := by decide +kernel
theorem d_S_yOf_3 : decode b_S_yOf 3 = .ok (.idiv, 1) := by decide +kernel
theorem d_S_yOf_4 : decode b_S_yOf 4 = .ok (.bipush 32, 2) := by decide +kernel
theorem d_S_yOf_6 : decode b_S_yOf 6 = .ok (.irem, 1) := by decide +kernel
theorem d_S_yOf_7 : decode b_S_yOf 7 = .ok (.ireturn, 1) := by decide +kernel
theorem d_S_value_0 : decode b_S_value 0 = .ok (.aload_n 0, 1) := by decide +kernel
theorem d_S_value_1 : decode b_S_value 1 = .ok (.iload_n 1, 1) := by decide +kernel
theorem d_S_value_2 : decode b_S_value 2 = .ok (.iload_n 2, 1) := by decide +kernel
theorem d_S_value_3 : decode b_S_value 3 = .ok (.iload_n 3, 1) := by decide +kernel
theorem d_S_value_4 : decode b_S_value 4 = .ok (.iload 4, 2) := by decide +kernel
theorem d_S_value_6 : decode b_S_value 6 = .ok (.invokevirtual 229, 3) := by decide +kernel
theorem d_S_value_9 : decode b_S_value 9 = .ok (.invokestatic 142, 3) := by decide +kernel
theorem d_S_value_12 : decode b_S_value 12 = .ok (.ireturn, 1) := by decide +kernel
theorem d_S_cellAt_0 : decode b_S_cellAt 0 = .ok (.aload_n 0, 1) := by decide +kernel
theorem d_S_cellAt_1 : decode b_S_cellAt 1 = .ok (.iload_n 1, 1) := by decide +kernel
theorem d_S_cellAt_2 : decode b_S_cellAt 2 = .ok (.invokevirtual 248, 3) := by decide +kernel
theorem d_S_cellAt_5 : decode b_S_cellAt 5 = .ok (.astore 5, 2) := by decide +kernel
theorem d_S_cellAt_7 : decode b_S_cellAt 7 = .ok (.aload 5, 2) := by decide +kernel
theorem d_S_cellAt_9 : decode b_S_cellAt 9 = .ok (.ifnull 25, 3) := by decide +kernel
theorem d_S_cellAt_12 : decode b_S_cellAt 12 = .ok (.iload_n 2, 1) := by decide +kernel
theorem d_S_cellAt_13 : decode b_S_cellAt 13 = .ok (.invokestatic 73, 3) := by decide +kernel
theorem d_S_cellAt_16 : decode b_S_cellAt 16 = .ok (.ifCond .eq 18, 3) := by decide +kernel
theorem d_S_cellAt_19 : decode b_S_cellAt 19 = .ok (.iload_n 3, 1) := by decide +kernel
theorem d_S_cellAt_20 : decode b_S_cellAt 20 = .ok (.invokestatic 290, 3) := by decide +kernel
theorem d_S_cellAt_23 : decode b_S_cellAt 23 = .ok (.ifCond .eq 11, 3) := by decide +kernel
theorem d_S_cellAt_26 : decode b_S_cellAt 26 = .ok (.iload 4, 2) := by decide +kernel
theorem d_S_cellAt_28 : decode b_S_cellAt 28 = .ok (.invokestatic 290, 3) := by decide +kernel
theorem d_S_cellAt_31 : decode b_S_cellAt 31 = .ok (.ifCond .ne 7, 3) := by decide +kernel
theorem d_S_cellAt_34 : decode b_S_cellAt 34 = .ok (.ldc2_w 43, 3) := by decide +kernel
theorem d_S_cellAt_37 : decode b_S_cellAt 37 = .ok (.lreturn, 1) := by decide +kernel
theorem d_S_cellAt_38 : decode b_S_cellAt 38 = .ok (.aload 5, 2) := by decide +kernel
theorem d_S_cellAt_40 : decode b_S_cellAt 40 = .ok (.iload_n 2, 1) := by decide +kernel
theorem d_S_cellAt_41 : decode b_S_cellAt 41 = .ok (.iload_n 3, 1) := by decide +kernel
theorem d_S_cellAt_42 : decode b_S_cellAt 42 = .ok (.iload 4, 2) := by decide +kernel
theorem d_S_cellAt_44 : decode b_S_cellAt 44 = .ok (.invokestatic 117, 3) := by decide +kernel
theorem d_S_cellAt_47 : decode b_S_cellAt 47 = .ok (.laload, 1) := by decide +kernel
theorem d_S_cellAt_48 : decode b_S_cellAt 48 = .ok (.lreturn, 1) := by decide +kernel
theorem d_S_cellsOf_0 : decode b_S_cellsOf 0 = .ok (.aload_n 0, 1) := by decide +kernel
theorem d_S_cellsOf_1 : decode b_S_cellsOf 1 = .ok (.iload_n 1, 1) := by decide +kernel
theorem d_S_cellsOf_2 : decode b_S_cellsOf 2 = .ok (.invokevirtual 77, 3) := by decide +kernel
theorem d_S_cellsOf_5 : decode b_S_cellsOf 5 = .ok (.astore_n 2, 1) := by decide +kernel
theorem d_S_cellsOf_6 : decode b_S_cellsOf 6 = .ok (.aload_n 2, 1) := by decide +kernel
theorem d_S_cellsOf_7 : decode b_S_cellsOf 7 = .ok (.ifnull 8, 3) := by decide +kernel
theorem d_S_cellsOf_10 : decode b_S_cellsOf 10 = .ok (.aload_n 2, 1) := by decide +kernel
theorem d_S_cellsOf_11 : decode b_S_cellsOf 11 = .ok (.getfield 91, 3) := by decide +kernel
theorem d_S_cellsOf_14 : decode b_S_cellsOf 14 = .ok (.areturn, 1) := by decide +kernel
theorem d_S_cellsOf_15 : decode b_S_cellsOf 15 = .ok (.aload_n 0, 1) := by decide +kernel
theorem d_S_cellsOf_16 : decode b_S_cellsOf 16 = .ok (.iload_n 1, 1) := by decide +kernel
theorem d_S_cellsOf_17 : decode b_S_cellsOf 17 = .ok (.invokevirtual 267, 3) := by decide +kernel
theorem d_S_cellsOf_20 : decode b_S_cellsOf 20 = .ok (.astore_n 3, 1) := by decide +kernel
theorem d_S_cellsOf_21 : decode b_S_cellsOf 21 = .ok (.aload_n 3, 1) := by decide +kernel
theorem d_S_cellsOf_22 : decode b_S_cellsOf 22 = .ok (.ifnonnull 7, 3) := by decide +kernel
theorem d_S_cellsOf_25 : decode b_S_cellsOf 25 = .ok (.aconst_null, 1) := by decide +kernel
theorem d_S_cellsOf_26 : decode b_S_cellsOf 26 = .ok (.goto 7, 3) := by decide +kernel
theorem d_S_cellsOf_29 : decode b_S_cellsOf 29 = .ok (.aload_n 3, 1) := by decide +kernel
theorem d_S_cellsOf_30 : decode b_S_cellsOf 30 = .ok (.getfield 132, 3) := by decide +kernel
theorem d_S_cellsOf_33 : decode b_S_cellsOf 33 = .ok (.areturn, 1) := by decide +kernel
theorem d_S_commitAt_0 : decode b_S_commitAt 0 = .ok (.iload_n 1, 1) := by decide +kernel
theorem d_S_commitAt_1 : decode b_S_commitAt 1 = .ok (.ifCond .lt 18, 3) := by decide +kernel
theorem d_S_commitAt_4 : decode b_S_commitAt 4 = .ok (.iload_n 1, 1) := by decide +kernel
theorem d_S_commitAt_5 : decode b_S_commitAt 5 = .ok (.bipush 24, 2) := by decide +kernel
theorem d_S_commitAt_7 : decode b_S_commitAt 7 = .ok (.if_icmp .ge 12, 3) := by decide +kernel
theorem d_S_commitAt_10 : decode b_S_commitAt 10 = .ok (.aload_n 0, 1) := by decide +kernel
theorem d_S_commitAt_11 : decode b_S_commitAt 11 = .ok (.getfield 15, 3) := by decide +kernel
theorem d_S_commitAt_14 : decode b_S_commitAt 14 = .ok (.iload_n 1, 1) := by decide +kernel
theorem d_S_commitAt_15 : decode b_S_commitAt 15 = .ok (.aaload, 1) := by decide +kernel
theorem d_S_commitAt_16 : decode b_S_commitAt 16 = .ok (.goto 4, 3) := by decide +kernel
theorem d_S_commitAt_19 : decode b_S_commitAt 19 = .ok (.aconst_null, 1) := by decide +kernel
theorem d_S_commitAt_20 : decode b_S_commitAt 20 = .ok (.areturn, 1) := by decide +kernel
theorem d_S_branchOfPlace_0 : decode b_S_branchOfPlace 0 = .ok (.iload_n 1, 1) := by decide +kernel
theorem d_S_branchOfPlace_1 : decode b_S_branchOfPlace 1 = .ok (.bipush 24, 2) := by decide +kernel
theorem d_S_branchOfPlace_3 : decode b_S_branchOfPlace 3 = .ok (.if_icmp .ge 7, 3) := by decide +kernel
theorem d_S_branchOfPlace_6 : decode b_S_branchOfPlace 6 = .ok (.aconst_null, 1) := by decide +kernel
theorem d_S_branchOfPlace_7 : decode b_S_branchOfPlace 7 = .ok (.goto 11, 3) := by decide +kernel
theorem d_S_branchOfPlace_10 : decode b_S_branchOfPlace 10 = .ok (.aload_n 0, 1) := by decide +kernel
theorem d_S_branchOfPlace_11 : decode b_S_branchOfPlace 11 = .ok (.iload_n 1, 1) := by decide +kernel
theorem d_S_branchOfPlace_12 : decode b_S_branchOfPlace 12 = .ok (.bipush 24, 2) := by decide +kernel
theorem d_S_branchOfPlace_14 : decode b_S_branchOfPlace 14 = .ok (.isub, 1) := by decide +kernel
theorem d_S_branchOfPlace_15 : decode b_S_branchOfPlace 15 = .ok (.invokevirtual 84, 3) := by decide +kernel
theorem d_S_branchOfPlace_18 : decode b_S_branchOfPlace 18 = .ok (.areturn, 1) := by decide +kernel
theorem d_S_isCoordinate_0 : decode b_S_isCoordinate 0 = .ok (.iload_n 0, 1) := by decide +kernel
theorem d_S_isCoordinate_1 : decode b_S_isCoordinate 1 = .ok (.ifCond .lt 13, 3) := by decide +kernel
theorem d_S_isCoordinate_4 : decode b_S_isCoordinate 4 = .ok (.iload_n 0, 1) := by decide +kernel
theorem d_S_isCoordinate_5 : decode b_S_isCoordinate 5 = .ok (.bipush 32, 2) := by decide +kernel
theorem d_S_isCoordinate_7 : decode b_S_isCoordinate 7 = .ok (.if_icmp .ge 7, 3) := by decide +kernel
theorem d_S_isCoordinate_10 : decode b_S_isCoordinate 10 = .ok (.iconst 1, 1) := by decide +kernel
theorem d_S_isCoordinate_11 : decode b_S_isCoordinate 11 = .ok (.goto 4, 3) := by decide +kernel
theorem d_S_isCoordinate_14 : decode b_S_isCoordinate 14 = .ok (.iconst 0, 1) := by decide +kernel
theorem d_S_isCoordinate_15 : decode b_S_isCoordinate 15 = .ok (.ireturn, 1) := by decide +kernel
theorem d_S_indexOf_0 : decode b_S_indexOf 0 = .ok (.iload_n 0, 1) := by decide +kernel
theorem d_S_indexOf_1 : decode b_S_indexOf 1 = .ok (.sipush 1024, 3) := by decide +kernel
theorem d_S_indexOf_4 : decode b_S_indexOf 4 = .ok (.imul, 1) := by decide +kernel
theorem d_S_indexOf_5 : decode b_S_indexOf 5 = .ok (.iload_n 2, 1) := by decide +kernel
theorem d_S_indexOf_6 : decode b_S_indexOf 6 = .ok (.bipush 32, 2) := by decide +kernel
theorem d_S_indexOf_8 : decode b_S_indexOf 8 = .ok (.imul, 1) := by decide +kernel
theorem d_S_indexOf_9 : decode b_S_indexOf 9 = .ok (.iadd, 1) := by decide +kernel
theorem d_S_indexOf_10 : decode b_S_indexOf 10 = .ok (.iload_n 1, 1) := by decide +kernel
theorem d_S_indexOf_11 : decode b_S_indexOf 11 = .ok (.iadd, 1) := by decide +kernel
theorem d_S_indexOf_12 : decode b_S_indexOf 12 = .ok (.ireturn, 1) := by decide +kernel
theorem d_S_valueOf_0 : decode b_S_valueOf 0 = .ok (.lload_n 0, 1) := by decide +kernel
theorem d_S_valueOf_1 : decode b_S_valueOf 1 = .ok (.bipush 32, 2) := by decide +kernel
theorem d_S_valueOf_3 : decode b_S_valueOf 3 = .ok (.lshr, 1) := by decide +kernel
theorem d_S_valueOf_4 : decode b_S_valueOf 4 = .ok (.l2i, 1) := by decide +kernel
theorem d_S_valueOf_5 : decode b_S_valueOf 5 = .ok (.ireturn, 1) := by decide +kernel
theorem d_S_origin_0 : decode b_S_origin 0 = .ok (.aload_n 0, 1) := by decide +kernel
theorem d_S_origin_1 : decode b_S_origin 1 = .ok (.iload_n 1, 1) := by decide +kernel
theorem d_S_origin_2 : decode b_S_origin 2 = .ok (.iload_n 2, 1) := by decide +kernel
theorem d_S_origin_3 : decode b_S_origin 3 = .ok (.iload_n 3, 1) := by decide +kernel
theorem d_S_origin_4 : decode b_S_origin 4 = .ok (.iload 4, 2) := by decide +kernel
theorem d_S_origin_6 : decode b_S_origin 6 = .ok (.invokevirtual 229, 3) := by decide +kernel
theorem d_S_origin_9 : decode b_S_origin 9 = .ok (.lstore 6, 2) := by decide +kernel
theorem d_S_origin_11 : decode b_S_origin 11 = .ok (.lload 6, 2) := by decide +kernel
theorem d_S_origin_13 : decode b_S_origin 13 = .ok (.invokestatic 142, 3) := by decide +kernel
theorem d_S_origin_16 : decode b_S_origin 16 = .ok (.ldc 69, 2) := by decide +kernel
theorem d_S_origin_18 : decode b_S_origin 18 = .ok (.if_icmp .ne 6, 3) := by decide +kernel
theorem d_S_origin_21 : decode b_S_origin 21 = .ok (.ldc 69, 2) := by decide +kernel
theorem d_S_origin_23 : decode b_S_origin 23 = .ok (.ireturn, 1) := by decide +kernel
theorem d_S_origin_24 : decode b_S_origin 24 = .ok (.iload 5, 2) := by decide +kernel
theorem d_S_origin_26 : decode b_S_origin 26 = .ok (.tableswitch 63 0 3 #[30, 36, 45, 54], 30) := by decide +kernel
theorem d_S_origin_56 : decode b_S_origin 56 = .ok (.lload 6, 2) := by decide +kernel
theorem d_S_origin_58 : decode b_S_origin 58 = .ok (.invokestatic 233, 3) := by decide +kernel
theorem d_S_origin_61 : decode b_S_origin 61 = .ok (.ireturn, 1) := by decide +kernel
theorem d_S_origin_62 : decode b_S_origin 62 = .ok (.lload 6, 2) := by decide +kernel
theorem d_S_origin_64 : decode b_S_origin 64 = .ok (.invokestatic 236, 3) := by decide +kernel
theorem d_S_origin_67 : decode b_S_origin 67 = .ok (.invokestatic 239, 3) := by decide +kernel
theorem d_S_origin_70 : decode b_S_origin 70 = .ok (.ireturn, 1) := by decide +kernel
theorem d_S_origin_71 : decode b_S_origin 71 = .ok (.lload 6, 2) := by decide +kernel
theorem d_S_origin_73 : decode b_S_origin 73 = .ok (.invokestatic 236, 3) := by decide +kernel
theorem d_S_origin_76 : decode b_S_origin 76 = .ok (.invokestatic 242, 3) := by decide +kernel
theorem d_S_origin_79 : decode b_S_origin 79 = .ok (.ireturn, 1) := by decide +kernel
theorem d_S_origin_80 : decode b_S_origin 80 = .ok (.lload 6, 2) := by decide +kernel
theorem d_S_origin_82 : decode b_S_origin 82 = .ok (.invokestatic 236, 3) := by decide +kernel
theorem d_S_origin_85 : decode b_S_origin 85 = .ok (.invokestatic 245, 3) := by decide +kernel
theorem d_S_origin_88 : decode b_S_origin 88 = .ok (.ireturn, 1) := by decide +kernel
theorem d_S_origin_89 : decode b_S_origin 89 = .ok (.ldc 69, 2) := by decide +kernel
theorem d_S_origin_91 : decode b_S_origin 91 = .ok (.ireturn, 1) := by decide +kernel
theorem d_S_originCommitOf_0 : decode b_S_originCommitOf 0 = .ok (.lload_n 0, 1) := by decide +kernel
theorem d_S_originCommitOf_1 : decode b_S_originCommitOf 1 = .ok (.invokestatic 142, 3) := by decide +kernel
theorem d_S_originCommitOf_4 : decode b_S_originCommitOf 4 = .ok (.ldc 69, 2) := by decide +kernel
theorem d_S_originCommitOf_6 : decode b_S_originCommitOf 6 = .ok (.if_icmp .ne 8, 3) := by decide +kernel
theorem d_S_originCommitOf_9 : decode b_S_originCommitOf 9 = .ok (.ldc 69, 2) := by decide +kernel
theorem d_S_originCommitOf_11 : decode b_S_originCommitOf 11 = .ok (.goto 8, 3) := by decide +kernel
theorem d_S_originCommitOf_14 : decode b_S_originCommitOf 14 = .ok (.lload_n 0, 1) := by decide +kernel
theorem d_S_originCommitOf_15 : decode b_S_originCommitOf 15 = .ok (.l2i, 1) := by decide +kernel
theorem d_S_originCommitOf_16 : decode b_S_originCommitOf 16 = .ok (.bipush 12, 2) := by decide +kernel
theorem d_S_originCommitOf_18 : decode b_S_originCommitOf 18 = .ok (.ishr, 1) := by decide +kernel
theorem d_S_originCommitOf_19 : decode b_S_originCommitOf 19 = .ok (.ireturn, 1) := by decide +kernel
theorem d_S_originIndexOf_0 : decode b_S_originIndexOf 0 = .ok (.lload_n 0, 1) := by decide +kernel
theorem d_S_originIndexOf_1 : decode b_S_originIndexOf 1 = .ok (.l2i, 1) := by decide +kernel
theorem d_S_originIndexOf_2 : decode b_S_originIndexOf 2 = .ok (.sipush 4095, 3) := by decide +kernel
theorem d_S_originIndexOf_5 : decode b_S_originIndexOf 5 = .ok (.iand, 1) := by decide +kernel
theorem d_S_originIndexOf_6 : decode b_S_originIndexOf 6 = .ok (.ireturn, 1) := by decide +kernel
theorem d_S_differing_0 : decode b_S_differing 0 = .ok (.aload_n 0, 1) := by decide +kernel
theorem d_S_differing_1 : decode b_S_differing 1 = .ok (.iload_n 1, 1) := by decide +kernel
theorem d_S_differing_2 : decode b_S_differing 2 = .ok (.invokevirtual 248, 3) := by decide +kernel
theorem d_S_differing_5 : decode b_S_differing 5 = .ok (.astore 4, 2) := by decide +kernel
theorem d_S_differing_7 : decode b_S_differing 7 = .ok (.aload_n 0, 1) := by decide +kernel
theorem d_S_differing_8 : decode b_S_differing 8 = .ok (.iload_n 2, 1) := by decide +kernel
theorem d_S_differing_9 : decode b_S_differing 9 = .ok (.invokevirtual 248, 3) := by decide +kernel
theorem d_S_differing_12 : decode b_S_differing 12 = .ok (.astore 5, 2) := by decide +kernel
theorem d_S_differing_14 : decode b_S_differing 14 = .ok (.aload 4, 2) := by decide +kernel
theorem d_S_differing_16 : decode b_S_differing 16 = .ok (.ifnull 15, 3) := by decide +kernel
theorem d_S_differing_19 : decode b_S_differing 19 = .ok (.aload 5, 2) := by decide +kernel
theorem d_S_differing_21 : decode b_S_differing 21 = .ok (.ifnull 10, 3) := by decide +kernel
theorem d_S_differing_24 : decode b_S_differing 24 = .ok (.iload_n 3, 1) := by decide +kernel
theorem d_S_differing_25 : decode b_S_differing 25 = .ok (.invokestatic 73, 3) := by decide +kernel
theorem d_S_differing_28 : decode b_S_differing 28 = .ok (.ifCond .ne 5, 3) := by decide +kernel
theorem d_S_differing_31 : decode b_S_differing 31 = .ok (.iconst (-1), 1) := by decide +kernel
theorem d_S_differing_32 : decode b_S_differing 32 = .ok (.ireturn, 1) := by decide +kernel
theorem d_S_differing_33 : decode b_S_differing 33 = .ok (.iconst 0, 1) := by decide +kernel
theorem d_S_differing_34 : decode b_S_differing 34 = .ok (.istore 6, 2) := by decide +kernel
theorem d_S_differing_36 : decode b_S_differing 36 = .ok (.iload_n 3, 1) := by decide +kernel
theorem d_S_differing_37 : decode b_S_differing 37 = .ok (.sipush 1024, 3) := by decide +kernel
theorem d_S_differing_40 : decode b_S_differing 40 = .ok (.imul, 1) := by decide +kernel
theorem d_S_differing_41 : decode b_S_differing 41 = .ok (.istore 7, 2) := by decide +kernel
theorem d_S_differing_43 : decode b_S_differing 43 = .ok (.iload 7, 2) := by decide +kernel
theorem d_S_differing_45 : decode b_S_differing 45 = .ok (.iload_n 3, 1) := by decide +kernel
theorem d_S_differing_46 : decode b_S_differing 46 = .ok (.iconst 1, 1) := by decide +kernel
theorem d_S_differing_47 : decode b_S_differing 47 = .ok (.iadd, 1) := by decide +kernel
theorem d_S_differing_48 : decode b_S_differing 48 = .ok (.sipush 1024, 3) := by decide +kernel
theorem d_S_differing_51 : decode b_S_differing 51 = .ok (.imul, 1) := by decide +kernel
theorem d_S_differing_52 : decode b_S_differing 52 = .ok (.if_icmp .ge 31, 3) := by decide +kernel
theorem d_S_differing_55 : decode b_S_differing 55 = .ok (.aload 4, 2) := by decide +kernel
theorem d_S_differing_57 : decode b_S_differing 57 = .ok (.iload 7, 2) := by decide +kernel
theorem d_S_differing_59 : decode b_S_differing 59 = .ok (.laload, 1) := by decide +kernel
theorem d_S_differing_60 : decode b_S_differing 60 = .ok (.invokestatic 142, 3) := by decide +kernel
theorem d_S_differing_63 : decode b_S_differing 63 = .ok (.aload 5, 2) := by decide +kernel
theorem d_S_differing_65 : decode b_S_differing 65 = .ok (.iload 7, 2) := by decide +kernel
theorem d_S_differing_67 : decode b_S_differing 67 = .ok (.laload, 1) := by decide +kernel
theorem d_S_differing_68 : decode b_S_differing 68 = .ok (.invokestatic 142, 3) := by decide +kernel
theorem d_S_differing_71 : decode b_S_differing 71 = .ok (.if_icmp .eq 6, 3) := by decide +kernel
theorem d_S_differing_74 : decode b_S_differing 74 = .ok (.iinc 6 1, 3) := by decide +kernel
theorem d_S_differing_77 : decode b_S_differing 77 = .ok (.iinc 7 1, 3) := by decide +kernel
theorem d_S_differing_80 : decode b_S_differing 80 = .ok (.goto (-37), 3) := by decide +kernel
theorem d_S_differing_83 : decode b_S_differing 83 = .ok (.iload 6, 2) := by decide +kernel
theorem d_S_differing_85 : decode b_S_differing 85 = .ok (.ireturn, 1) := by decide +kernel
theorem d_S_differs_0 : decode b_S_differs 0 = .ok (.aload_n 0, 1) := by decide +kernel
theorem d_S_differs_1 : decode b_S_differs 1 = .ok (.iload_n 1, 1) := by decide +kernel
theorem d_S_differs_2 : decode b_S_differs 2 = .ok (.invokevirtual 248, 3) := by decide +kernel
theorem d_S_differs_5 : decode b_S_differs 5 = .ok (.astore 5, 2) := by decide +kernel
theorem d_S_differs_7 : decode b_S_differs 7 = .ok (.aload_n 0, 1) := by decide +kernel
theorem d_S_differs_8 : decode b_S_differs 8 = .ok (.iload_n 2, 1) := by decide +kernel
theorem d_S_differs_9 : decode b_S_differs 9 = .ok (.invokevirtual 248, 3) := by decide +kernel
theorem d_S_differs_12 : decode b_S_differs 12 = .ok (.astore 6, 2) := by decide +kernel
theorem d_S_differs_14 : decode b_S_differs 14 = .ok (.aload 5, 2) := by decide +kernel
theorem d_S_differs_16 : decode b_S_differs 16 = .ok (.ifnull 15, 3) := by decide +kernel
theorem d_S_differs_19 : decode b_S_differs 19 = .ok (.aload 6, 2) := by decide +kernel
theorem d_S_differs_21 : decode b_S_differs 21 = .ok (.ifnull 10, 3) := by decide +kernel
theorem d_S_differs_24 : decode b_S_differs 24 = .ok (.iload_n 3, 1) := by decide +kernel
theorem d_S_differs_25 : decode b_S_differs 25 = .ok (.invokestatic 73, 3) := by decide +kernel
theorem d_S_differs_28 : decode b_S_differs 28 = .ok (.ifCond .ne 5, 3) := by decide +kernel
theorem d_S_differs_31 : decode b_S_differs 31 = .ok (.iconst (-1), 1) := by decide +kernel
theorem d_S_differs_32 : decode b_S_differs 32 = .ok (.ireturn, 1) := by decide +kernel
theorem d_S_differs_33 : decode b_S_differs 33 = .ok (.iconst 0, 1) := by decide +kernel
theorem d_S_differs_34 : decode b_S_differs 34 = .ok (.istore 7, 2) := by decide +kernel
theorem d_S_differs_36 : decode b_S_differs 36 = .ok (.iload_n 3, 1) := by decide +kernel
theorem d_S_differs_37 : decode b_S_differs 37 = .ok (.sipush 1024, 3) := by decide +kernel
theorem d_S_differs_40 : decode b_S_differs 40 = .ok (.imul, 1) := by decide +kernel
theorem d_S_differs_41 : decode b_S_differs 41 = .ok (.istore 8, 2) := by decide +kernel
theorem d_S_differs_43 : decode b_S_differs 43 = .ok (.iconst 0, 1) := by decide +kernel
theorem d_S_differs_44 : decode b_S_differs 44 = .ok (.istore 9, 2) := by decide +kernel
theorem d_S_differs_46 : decode b_S_differs 46 = .ok (.iload 9, 2) := by decide +kernel
theorem d_S_differs_48 : decode b_S_differs 48 = .ok (.sipush 1024, 3) := by decide +kernel
theorem d_S_differs_51 : decode b_S_differs 51 = .ok (.if_icmp .ge 47, 3) := by decide +kernel
theorem d_S_differs_54 : decode b_S_differs 54 = .ok (.aload 5, 2) := by decide +kernel
theorem d_S_differs_56 : decode b_S_differs 56 = .ok (.iload 8, 2) := by decide +kernel
theorem d_S_differs_58 : decode b_S_differs 58 = .ok (.iload 9, 2) := by decide +kernel
theorem d_S_differs_60 : decode b_S_differs 60 = .ok (.iadd, 1) := by decide +kernel
theorem d_S_differs_61 : decode b_S_differs 61 = .ok (.laload, 1) := by decide +kernel
theorem d_S_differs_62 : decode b_S_differs 62 = .ok (.invokestatic 142, 3) := by decide +kernel
theorem d_S_differs_65 : decode b_S_differs 65 = .ok (.aload 6, 2) := by decide +kernel
theorem d_S_differs_67 : decode b_S_differs 67 = .ok (.iload 8, 2) := by decide +kernel
theorem d_S_differs_69 : decode b_S_differs 69 = .ok (.iload 9, 2) := by decide +kernel
theorem d_S_differs_71 : decode b_S_differs 71 = .ok (.iadd, 1) := by decide +kernel
theorem d_S_differs_72 : decode b_S_differs 72 = .ok (.laload, 1) := by decide +kernel
theorem d_S_differs_73 : decode b_S_differs 73 = .ok (.invokestatic 142, 3) := by decide +kernel
theorem d_S_differs_76 : decode b_S_differs 76 = .ok (.if_icmp .eq 16, 3) := by decide +kernel
theorem d_S_differs_79 : decode b_S_differs 79 = .ok (.iload 7, 2) := by decide +kernel
theorem d_S_differs_81 : decode b_S_differs 81 = .ok (.iload 4, 2) := by decide +kernel
theorem d_S_differs_83 : decode b_S_differs 83 = .ok (.if_icmp .ne 6, 3) := by decide +kernel
theorem d_S_differs_86 : decode b_S_differs 86 = .ok (.iload 9, 2) := by decide +kernel
theorem d_S_differs_88 : decode b_S_differs 88 = .ok (.ireturn, 1) := by decide +kernel
theorem d_S_differs_89 : decode b_S_differs 89 = .ok (.iinc 7 1, 3) := by decide +kernel
theorem d_S_differs_92 : decode b_S_differs 92 = .ok (.iinc 9 1, 3) := by decide +kernel
theorem d_S_differs_95 : decode b_S_differs 95 = .ok (.goto (-49), 3) := by decide +kernel
theorem d_S_differs_98 : decode b_S_differs 98 = .ok (.iconst (-1), 1) := by decide +kernel
theorem d_S_differs_99 : decode b_S_differs 99 = .ok (.ireturn, 1) := by decide +kernel
theorem d_S_nearest_0 : decode b_S_nearest 0 = .ok (.aload_n 0, 1) := by decide +kernel
theorem d_S_nearest_1 : decode b_S_nearest 1 = .ok (.iload_n 1, 1) := by decide +kernel
theorem d_S_nearest_2 : decode b_S_nearest 2 = .ok (.invokevirtual 77, 3) := by decide +kernel
theorem d_S_nearest_5 : decode b_S_nearest 5 = .ok (.ifnull 11, 3) := by decide +kernel
theorem d_S_nearest_8 : decode b_S_nearest 8 = .ok (.aload_n 0, 1) := by decide +kernel
theorem d_S_nearest_9 : decode b_S_nearest 9 = .ok (.iload_n 2, 1) := by decide +kernel
theorem d_S_nearest_10 : decode b_S_nearest 10 = .ok (.invokevirtual 77, 3) := by decide +kernel
theorem d_S_nearest_13 : decode b_S_nearest 13 = .ok (.ifnonnull 5, 3) := by decide +kernel
theorem d_S_nearest_16 : decode b_S_nearest 16 = .ok (.iconst (-1), 1) := by decide +kernel
theorem d_S_nearest_17 : decode b_S_nearest 17 = .ok (.ireturn, 1) := by decide +kernel
theorem d_S_nearest_18 : decode b_S_nearest 18 = .ok (.aload_n 0, 1) := by decide +kernel
theorem d_S_nearest_19 : decode b_S_nearest 19 = .ok (.iconst 1, 1) := by decide +kernel
theorem d_S_nearest_20 : decode b_S_nearest 20 = .ok (.iload_n 1, 1) := by decide +kernel
theorem d_S_nearest_21 : decode b_S_nearest 21 = .ok (.ishl, 1) := by decide +kernel
theorem d_S_nearest_22 : decode b_S_nearest 22 = .ok (.iload_n 2, 1) := by decide +kernel
theorem d_S_nearest_23 : decode b_S_nearest 23 = .ok (.invokevirtual 260, 3) := by decide +kernel
theorem d_S_nearest_26 : decode b_S_nearest 26 = .ok (.istore 4, 2) := by decide +kernel
theorem d_S_nearest_28 : decode b_S_nearest 28 = .ok (.iconst 0, 1) := by decide +kernel
theorem d_S_nearest_29 : decode b_S_nearest 29 = .ok (.istore 5, 2) := by decide +kernel
theorem d_S_nearest_31 : decode b_S_nearest 31 = .ok (.iconst 0, 1) := by decide +kernel
theorem d_S_nearest_32 : decode b_S_nearest 32 = .ok (.istore 6, 2) := by decide +kernel
theorem d_S_nearest_34 : decode b_S_nearest 34 = .ok (.iload 6, 2) := by decide +kernel
theorem d_S_nearest_36 : decode b_S_nearest 36 = .ok (.aload_n 0, 1) := by decide +kernel
theorem d_S_nearest_37 : decode b_S_nearest 37 = .ok (.getfield 54, 3) := by decide +kernel
theorem d_S_nearest_40 : decode b_S_nearest 40 = .ok (.if_icmp .ge 31, 3) := by decide +kernel
theorem d_S_nearest_43 : decode b_S_nearest 43 = .ok (.iload 4, 2) := by decide +kernel
theorem d_S_nearest_45 : decode b_S_nearest 45 = .ok (.iload 6, 2) := by decide +kernel
theorem d_S_nearest_47 : decode b_S_nearest 47 = .ok (.invokestatic 186, 3) := by decide +kernel
theorem d_S_nearest_50 : decode b_S_nearest 50 = .ok (.ifCond .eq 15, 3) := by decide +kernel
theorem d_S_nearest_53 : decode b_S_nearest 53 = .ok (.iload 5, 2) := by decide +kernel
theorem d_S_nearest_55 : decode b_S_nearest 55 = .ok (.iload_n 3, 1) := by decide +kernel
theorem d_S_nearest_56 : decode b_S_nearest 56 = .ok (.if_icmp .ne 6, 3) := by decide +kernel
theorem d_S_nearest_59 : decode b_S_nearest 59 = .ok (.iload 6, 2) := by decide +kernel
theorem d_S_nearest_61 : decode b_S_nearest 61 = .ok (.ireturn, 1) := by decide +kernel
theorem d_S_nearest_62 : decode b_S_nearest 62 = .ok (.iinc 5 1, 3) := by decide +kernel
theorem d_S_nearest_65 : decode b_S_nearest 65 = .ok (.iinc 6 1, 3) := by decide +kernel
theorem d_S_nearest_68 : decode b_S_nearest 68 = .ok (.goto (-34), 3) := by decide +kernel
theorem d_S_nearest_71 : decode b_S_nearest 71 = .ok (.iconst (-1), 1) := by decide +kernel
theorem d_S_nearest_72 : decode b_S_nearest 72 = .ok (.ireturn, 1) := by decide +kernel
theorem d_S_nearestOf_0 : decode b_S_nearestOf 0 = .ok (.iconst 0, 1) := by decide +kernel
theorem d_S_nearestOf_1 : decode b_S_nearestOf 1 = .ok (.istore_n 3, 1) := by decide +kernel
theorem d_S_nearestOf_2 : decode b_S_nearestOf 2 = .ok (.iconst 0, 1) := by decide +kernel
theorem d_S_nearestOf_3 : decode b_S_nearestOf 3 = .ok (.istore 4, 2) := by decide +kernel
theorem d_S_nearestOf_5 : decode b_S_nearestOf 5 = .ok (.iload 4, 2) := by decide +kernel
theorem d_S_nearestOf_7 : decode b_S_nearestOf 7 = .ok (.aload_n 0, 1) := by decide +kernel
theorem d_S_nearestOf_8 : decode b_S_nearestOf 8 = .ok (.getfield 54, 3) := by decide +kernel
theorem d_S_nearestOf_11 : decode b_S_nearestOf 11 = .ok (.if_icmp .ge 27, 3) := by decide +kernel
theorem d_S_nearestOf_14 : decode b_S_nearestOf 14 = .ok (.iload_n 1, 1) := by decide +kernel
theorem d_S_nearestOf_15 : decode b_S_nearestOf 15 = .ok (.iload 4, 2) := by decide +kernel
theorem d_S_nearestOf_17 : decode b_S_nearestOf 17 = .ok (.invokestatic 186, 3) := by decide +kernel
theorem d_S_nearestOf_20 : decode b_S_nearestOf 20 = .ok (.ifCond .eq 12, 3) := by decide +kernel
theorem d_S_nearestOf_23 : decode b_S_nearestOf 23 = .ok (.iload_n 3, 1) := by decide +kernel
theorem d_S_nearestOf_24 : decode b_S_nearestOf 24 = .ok (.aload_n 0, 1) := by decide +kernel
theorem d_S_nearestOf_25 : decode b_S_nearestOf 25 = .ok (.iload 4, 2) := by decide +kernel
theorem d_S_nearestOf_27 : decode b_S_nearestOf 27 = .ok (.invokevirtual 172, 3) := by decide +kernel
theorem d_S_nearestOf_30 : decode b_S_nearestOf 30 = .ok (.ior, 1) := by decide +kernel
theorem d_S_nearestOf_31 : decode b_S_nearestOf 31 = .ok (.istore_n 3, 1) := by decide +kernel
theorem d_S_nearestOf_32 : decode b_S_nearestOf 32 = .ok (.iinc 4 1, 3) := by decide +kernel
theorem d_S_nearestOf_35 : decode b_S_nearestOf 35 = .ok (.goto (-30), 3) := by decide +kernel
theorem d_S_nearestOf_38 : decode b_S_nearestOf 38 = .ok (.iload_n 3, 1) := by decide +kernel
theorem d_S_nearestOf_39 : decode b_S_nearestOf 39 = .ok (.aload_n 0, 1) := by decide +kernel
theorem d_S_nearestOf_40 : decode b_S_nearestOf 40 = .ok (.iload_n 2, 1) := by decide +kernel
theorem d_S_nearestOf_41 : decode b_S_nearestOf 41 = .ok (.invokevirtual 172, 3) := by decide +kernel
theorem d_S_nearestOf_44 : decode b_S_nearestOf 44 = .ok (.iand, 1) := by decide +kernel
theorem d_S_nearestOf_45 : decode b_S_nearestOf 45 = .ok (.istore 4, 2) := by decide +kernel
theorem d_S_nearestOf_47 : decode b_S_nearestOf 47 = .ok (.iconst 0, 1) := by decide +kernel
theorem d_S_nearestOf_48 : decode b_S_nearestOf 48 = .ok (.istore 5, 2) := by decide +kernel
theorem d_S_nearestOf_50 : decode b_S_nearestOf 50 = .ok (.iconst 0, 1) := by decide +kernel
theorem d_S_nearestOf_51 : decode b_S_nearestOf 51 = .ok (.istore 6, 2) := by decide +kernel
theorem d_S_nearestOf_53 : decode b_S_nearestOf 53 = .ok (.iload 6, 2) := by decide +kernel
theorem d_S_nearestOf_55 : decode b_S_nearestOf 55 = .ok (.aload_n 0, 1) := by decide +kernel
theorem d_S_nearestOf_56 : decode b_S_nearestOf 56 = .ok (.getfield 54, 3) := by decide +kernel
theorem d_S_nearestOf_59 : decode b_S_nearestOf 59 = .ok (.if_icmp .ge 37, 3) := by decide +kernel
theorem d_S_nearestOf_62 : decode b_S_nearestOf 62 = .ok (.iload 4, 2) := by decide +kernel
theorem d_S_nearestOf_64 : decode b_S_nearestOf 64 = .ok (.iload 6, 2) := by decide +kernel
theorem d_S_nearestOf_66 : decode b_S_nearestOf 66 = .ok (.invokestatic 186, 3) := by decide +kernel
theorem d_S_nearestOf_69 : decode b_S_nearestOf 69 = .ok (.ifCond .eq 21, 3) := by decide +kernel
theorem d_S_nearestOf_72 : decode b_S_nearestOf 72 = .ok (.iload 5, 2) := by decide +kernel
theorem d_S_nearestOf_74 : decode b_S_nearestOf 74 = .ok (.aload_n 0, 1) := by decide +kernel
theorem d_S_nearestOf_75 : decode b_S_nearestOf 75 = .ok (.iload 6, 2) := by decide +kernel
theorem d_S_nearestOf_77 : decode b_S_nearestOf 77 = .ok (.invokevirtual 172, 3) := by decide +kernel
theorem d_S_nearestOf_80 : decode b_S_nearestOf 80 = .ok (.iconst 1, 1) := by decide +kernel
theorem d_S_nearestOf_81 : decode b_S_nearestOf 81 = .ok (.iload 6, 2) := by decide +kernel
theorem d_S_nearestOf_83 : decode b_S_nearestOf 83 = .ok (.ishl, 1) := by decide +kernel
theorem d_S_nearestOf_84 : decode b_S_nearestOf 84 = .ok (.iconst (-1), 1) := by decide +kernel
theorem d_S_nearestOf_85 : decode b_S_nearestOf 85 = .ok (.ixor, 1) := by decide +kernel
theorem d_S_nearestOf_86 : decode b_S_nearestOf 86 = .ok (.iand, 1) := by decide +kernel
theorem d_S_nearestOf_87 : decode b_S_nearestOf 87 = .ok (.ior, 1) := by decide +kernel
theorem d_S_nearestOf_88 : decode b_S_nearestOf 88 = .ok (.istore 5, 2) := by decide +kernel
theorem d_S_nearestOf_90 : decode b_S_nearestOf 90 = .ok (.iinc 6 1, 3) := by decide +kernel
theorem d_S_nearestOf_93 : decode b_S_nearestOf 93 = .ok (.goto (-40), 3) := by decide +kernel
theorem d_S_nearestOf_96 : decode b_S_nearestOf 96 = .ok (.iload 4, 2) := by decide +kernel
theorem d_S_nearestOf_98 : decode b_S_nearestOf 98 = .ok (.iload 5, 2) := by decide +kernel
theorem d_S_nearestOf_100 : decode b_S_nearestOf 100 = .ok (.iconst (-1), 1) := by decide +kernel
theorem d_S_nearestOf_101 : decode b_S_nearestOf 101 = .ok (.ixor, 1) := by decide +kernel
theorem d_S_nearestOf_102 : decode b_S_nearestOf 102 = .ok (.iand, 1) := by decide +kernel
theorem d_S_nearestOf_103 : decode b_S_nearestOf 103 = .ok (.ireturn, 1) := by decide +kernel
theorem d_S_contains_0 : decode b_S_contains 0 = .ok (.iload_n 0, 1) := by decide +kernel
theorem d_S_contains_1 : decode b_S_contains 1 = .ok (.iload_n 1, 1) := by decide +kernel
theorem d_S_contains_2 : decode b_S_contains 2 = .ok (.ishr, 1) := by decide +kernel
theorem d_S_contains_3 : decode b_S_contains 3 = .ok (.iconst 1, 1) := by decide +kernel
theorem d_S_contains_4 : decode b_S_contains 4 = .ok (.iand, 1) := by decide +kernel
theorem d_S_contains_5 : decode b_S_contains 5 = .ok (.iconst 1, 1) := by decide +kernel
theorem d_S_contains_6 : decode b_S_contains 6 = .ok (.if_icmp .ne 7, 3) := by decide +kernel
theorem d_S_contains_9 : decode b_S_contains 9 = .ok (.iconst 1, 1) := by decide +kernel
theorem d_S_contains_10 : decode b_S_contains 10 = .ok (.goto 4, 3) := by decide +kernel
theorem d_S_contains_13 : decode b_S_contains 13 = .ok (.iconst 0, 1) := by decide +kernel
theorem d_S_contains_14 : decode b_S_contains 14 = .ok (.ireturn, 1) := by decide +kernel
theorem d_S_ancestorsOf_0 : decode b_S_ancestorsOf 0 = .ok (.aload_n 0, 1) := by decide +kernel
theorem d_S_ancestorsOf_1 : decode b_S_ancestorsOf 1 = .ok (.iload_n 1, 1) := by decide +kernel
theorem d_S_ancestorsOf_2 : decode b_S_ancestorsOf 2 = .ok (.invokevirtual 77, 3) := by decide +kernel
theorem d_S_ancestorsOf_5 : decode b_S_ancestorsOf 5 = .ok (.astore_n 2, 1) := by decide +kernel
theorem d_S_ancestorsOf_6 : decode b_S_ancestorsOf 6 = .ok (.aload_n 2, 1) := by decide +kernel
theorem d_S_ancestorsOf_7 : decode b_S_ancestorsOf 7 = .ok (.ifnonnull 7, 3) := by decide +kernel
theorem d_S_ancestorsOf_10 : decode b_S_ancestorsOf 10 = .ok (.iconst 0, 1) := by decide +kernel
theorem d_S_ancestorsOf_11 : decode b_S_ancestorsOf 11 = .ok (.goto 7, 3) := by decide +kernel
theorem d_S_ancestorsOf_14 : decode b_S_ancestorsOf 14 = .ok (.aload_n 2, 1) := by decide +kernel
theorem d_S_ancestorsOf_15 : decode b_S_ancestorsOf 15 = .ok (.getfield 304, 3) := by decide +kernel
theorem d_S_ancestorsOf_18 : decode b_S_ancestorsOf 18 = .ok (.ireturn, 1) := by decide +kernel
theorem d_S_about_0 : decode b_S_about 0 = .ok (.aload_n 0, 1) := by decide +kernel
theorem d_S_about_1 : decode b_S_about 1 = .ok (.iload_n 1, 1) := by decide +kernel
theorem d_S_about_2 : decode b_S_about 2 = .ok (.invokevirtual 77, 3) := by decide +kernel
theorem d_S_about_5 : decode b_S_about 5 = .ok (.astore_n 3, 1) := by decide +kernel
theorem d_S_about_6 : decode b_S_about 6 = .ok (.aload_n 3, 1) := by decide +kernel
theorem d_S_about_7 : decode b_S_about 7 = .ok (.ifnull 11, 3) := by decide +kernel
theorem d_S_about_10 : decode b_S_about 10 = .ok (.aload_n 0, 1) := by decide +kernel
theorem d_S_about_11 : decode b_S_about 11 = .ok (.aload_n 3, 1) := by decide +kernel
theorem d_S_about_12 : decode b_S_about 12 = .ok (.iload_n 1, 1) := by decide +kernel
theorem d_S_about_13 : decode b_S_about 13 = .ok (.iload_n 2, 1) := by decide +kernel
theorem d_S_about_14 : decode b_S_about 14 = .ok (.invokevirtual 263, 3) := by decide +kernel
theorem d_S_about_17 : decode b_S_about 17 = .ok (.ireturn, 1) := by decide +kernel
theorem d_S_about_18 : decode b_S_about 18 = .ok (.aload_n 0, 1) := by decide +kernel
theorem d_S_about_19 : decode b_S_about 19 = .ok (.iload_n 1, 1) := by decide +kernel
theorem d_S_about_20 : decode b_S_about 20 = .ok (.invokevirtual 267, 3) := by decide +kernel
theorem d_S_about_23 : decode b_S_about 23 = .ok (.astore 4, 2) := by decide +kernel
theorem d_S_about_25 : decode b_S_about 25 = .ok (.aload 4, 2) := by decide +kernel
theorem d_S_about_27 : decode b_S_about 27 = .ok (.ifnull 11, 3) := by decide +kernel
theorem d_S_about_30 : decode b_S_about 30 = .ok (.aload_n 0, 1) := by decide +kernel
theorem d_S_about_31 : decode b_S_about 31 = .ok (.aload 4, 2) := by decide +kernel
theorem d_S_about_33 : decode b_S_about 33 = .ok (.iload_n 2, 1) := by decide +kernel
theorem d_S_about_34 : decode b_S_about 34 = .ok (.invokevirtual 270, 3) := by decide +kernel
theorem d_S_about_37 : decode b_S_about 37 = .ok (.ireturn, 1) := by decide +kernel
theorem d_S_about_38 : decode b_S_about 38 = .ok (.iconst (-1), 1) := by decide +kernel
theorem d_S_about_39 : decode b_S_about 39 = .ok (.ireturn, 1) := by decide +kernel
theorem d_S_aboutCommit_0 : decode b_S_aboutCommit 0 = .ok (.iload_n 3, 1) := by decide +kernel
theorem d_S_aboutCommit_1 : decode b_S_aboutCommit 1 = .ok (.tableswitch 43 0 2 #[27, 32, 37], 27) := by decide +kernel
theorem d_S_aboutCommit_28 : decode b_S_aboutCommit 28 = .ok (.aload_n 1, 1) := by decide +kernel
theorem d_S_aboutCommit_29 : decode b_S_aboutCommit 29 = .ok (.getfield 335, 3) := by decide +kernel
theorem d_S_aboutCommit_32 : decode b_S_aboutCommit 32 = .ok (.ireturn, 1) := by decide +kernel
theorem d_S_aboutCommit_33 : decode b_S_aboutCommit 33 = .ok (.aload_n 1, 1) := by decide +kernel
theorem d_S_aboutCommit_34 : decode b_S_aboutCommit 34 = .ok (.getfield 338, 3) := by decide +kernel
theorem d_S_aboutCommit_37 : decode b_S_aboutCommit 37 = .ok (.ireturn, 1) := by decide +kernel
theorem d_S_aboutCommit_38 : decode b_S_aboutCommit 38 = .ok (.aload_n 0, 1) := by decide +kernel
theorem d_S_aboutCommit_39 : decode b_S_aboutCommit 39 = .ok (.iload_n 2, 1) := by decide +kernel
theorem d_S_aboutCommit_40 : decode b_S_aboutCommit 40 = .ok (.invokevirtual 341, 3) := by decide +kernel
theorem d_S_aboutCommit_43 : decode b_S_aboutCommit 43 = .ok (.ireturn, 1) := by decide +kernel
theorem d_S_aboutCommit_44 : decode b_S_aboutCommit 44 = .ok (.iconst (-1), 1) := by decide +kernel
theorem d_S_aboutCommit_45 : decode b_S_aboutCommit 45 = .ok (.ireturn, 1) := by decide +kernel
theorem d_S_childrenOf_0 : decode b_S_childrenOf 0 = .ok (.iconst 0, 1) := by decide +kernel
theorem d_S_childrenOf_1 : decode b_S_childrenOf 1 = .ok (.istore_n 2, 1) := by decide +kernel
theorem d_S_childrenOf_2 : decode b_S_childrenOf 2 = .ok (.iconst 0, 1) := by decide +kernel
theorem d_S_childrenOf_3 : decode b_S_childrenOf 3 = .ok (.istore_n 3, 1) := by decide +kernel
theorem d_S_childrenOf_4 : decode b_S_childrenOf 4 = .ok (.iload_n 3, 1) := by decide +kernel
theorem d_S_childrenOf_5 : decode b_S_childrenOf 5 = .ok (.aload_n 0, 1) := by decide +kernel
theorem d_S_childrenOf_6 : decode b_S_childrenOf 6 = .ok (.getfield 54, 3) := by decide +kernel
theorem d_S_childrenOf_9 : decode b_S_childrenOf 9 = .ok (.if_icmp .ge 33, 3) := by decide +kernel
theorem d_S_childrenOf_12 : decode b_S_childrenOf 12 = .ok (.aload_n 0, 1) := by decide +kernel
theorem d_S_childrenOf_13 : decode b_S_childrenOf 13 = .ok (.iload_n 3, 1) := by decide +kernel
theorem d_S_childrenOf_14 : decode b_S_childrenOf 14 = .ok (.invokevirtual 77, 3) := by decide +kernel
theorem d_S_childrenOf_17 : decode b_S_childrenOf 17 = .ok (.astore 4, 2) := by decide +kernel
theorem d_S_childrenOf_19 : decode b_S_childrenOf 19 = .ok (.aload 4, 2) := by decide +kernel
theorem d_S_childrenOf_21 : decode b_S_childrenOf 21 = .ok (.ifnull 15, 3) := by decide +kernel
theorem d_S_childrenOf_24 : decode b_S_childrenOf 24 = .ok (.aload 4, 2) := by decide +kernel
theorem d_S_childrenOf_26 : decode b_S_childrenOf 26 = .ok (.iload_n 1, 1) := by decide +kernel
theorem d_S_childrenOf_27 : decode b_S_childrenOf 27 = .ok (.invokevirtual 344, 3) := by decide +kernel
theorem d_S_childrenOf_30 : decode b_S_childrenOf 30 = .ok (.ifCond .eq 6, 3) := by decide +kernel
theorem d_S_childrenOf_33 : decode b_S_childrenOf 33 = .ok (.iinc 2 1, 3) := by decide +kernel
theorem d_S_childrenOf_36 : decode b_S_childrenOf 36 = .ok (.iinc 3 1, 3) := by decide +kernel
theorem d_S_childrenOf_39 : decode b_S_childrenOf 39 = .ok (.goto (-35), 3) := by decide +kernel
theorem d_S_childrenOf_42 : decode b_S_childrenOf 42 = .ok (.iload_n 2, 1) := by decide +kernel
theorem d_S_childrenOf_43 : decode b_S_childrenOf 43 = .ok (.ireturn, 1) := by decide +kernel
theorem d_C_hasParent_0 : decode b_C_hasParent 0 = .ok (.aload_n 0, 1) := by decide +kernel
theorem d_C_hasParent_1 : decode b_C_hasParent 1 = .ok (.getfield 7, 3) := by decide +kernel
theorem d_C_hasParent_4 : decode b_C_hasParent 4 = .ok (.iload_n 1, 1) := by decide +kernel
theorem d_C_hasParent_5 : decode b_C_hasParent 5 = .ok (.if_icmp .eq 11, 3) := by decide +kernel
theorem d_C_hasParent_8 : decode b_C_hasParent 8 = .ok (.aload_n 0, 1) := by decide +kernel
theorem d_C_hasParent_9 : decode b_C_hasParent 9 = .ok (.getfield 13, 3) := by decide +kernel
theorem d_C_hasParent_12 : decode b_C_hasParent 12 = .ok (.iload_n 1, 1) := by decide +kernel
theorem d_C_hasParent_13 : decode b_C_hasParent 13 = .ok (.if_icmp .ne 7, 3) := by decide +kernel
theorem d_C_hasParent_16 : decode b_C_hasParent 16 = .ok (.iconst 1, 1) := by decide +kernel
theorem d_C_hasParent_17 : decode b_C_hasParent 17 = .ok (.goto 4, 3) := by decide +kernel
theorem d_C_hasParent_20 : decode b_C_hasParent 20 = .ok (.iconst 0, 1) := by decide +kernel
theorem d_C_hasParent_21 : decode b_C_hasParent 21 = .ok (.ireturn, 1) := by decide +kernel
theorem d_S_aboutBranch_0 : decode b_S_aboutBranch 0 = .ok (.iload_n 2, 1) := by decide +kernel
theorem d_S_aboutBranch_1 : decode b_S_aboutBranch 1 = .ok (.tableswitch 51 0 2 #[27, 32, 37], 27) := by decide +kernel
theorem d_S_aboutBranch_28 : decode b_S_aboutBranch 28 = .ok (.aload_n 1, 1) := by decide +kernel
theorem d_S_aboutBranch_29 : decode b_S_aboutBranch 29 = .ok (.getfield 169, 3) := by decide +kernel
theorem d_S_aboutBranch_32 : decode b_S_aboutBranch 32 = .ok (.ireturn, 1) := by decide +kernel
theorem d_S_aboutBranch_33 : decode b_S_aboutBranch 33 = .ok (.aload_n 1, 1) := by decide +kernel
theorem d_S_aboutBranch_34 : decode b_S_aboutBranch 34 = .ok (.getfield 175, 3) := by decide +kernel
theorem d_S_aboutBranch_37 : decode b_S_aboutBranch 37 = .ok (.ireturn, 1) := by decide +kernel
theorem d_S_aboutBranch_38 : decode b_S_aboutBranch 38 = .ok (.aload_n 0, 1) := by decide +kernel
theorem d_S_aboutBranch_39 : decode b_S_aboutBranch 39 = .ok (.aload_n 1, 1) := by decide +kernel
theorem d_S_aboutBranch_40 : decode b_S_aboutBranch 40 = .ok (.invokevirtual 157, 3) := by decide +kernel
theorem d_S_aboutBranch_43 : decode b_S_aboutBranch 43 = .ok (.ifCond .eq 7, 3) := by decide +kernel
theorem d_S_aboutBranch_46 : decode b_S_aboutBranch 46 = .ok (.iconst 1, 1) := by decide +kernel
theorem d_S_aboutBranch_47 : decode b_S_aboutBranch 47 = .ok (.goto 4, 3) := by decide +kernel
theorem d_S_aboutBranch_50 : decode b_S_aboutBranch 50 = .ok (.iconst 0, 1) := by decide +kernel
theorem d_S_aboutBranch_51 : decode b_S_aboutBranch 51 = .ok (.ireturn, 1) := by decide +kernel
theorem d_S_aboutBranch_52 : decode b_S_aboutBranch 52 = .ok (.iconst (-1), 1) := by decide +kernel
theorem d_S_aboutBranch_53 : decode b_S_aboutBranch 53 = .ok (.ireturn, 1) := by decide +kernel
theorem d_S_isChanged_0 : decode b_S_isChanged 0 = .ok (.aload_n 1, 1) := by decide +kernel
theorem d_S_isChanged_1 : decode b_S_isChanged 1 = .ok (.getfield 175, 3) := by decide +kernel
theorem d_S_isChanged_4 : decode b_S_isChanged 4 = .ok (.iconst (-1), 1) := by decide +kernel
theorem d_S_isChanged_5 : decode b_S_isChanged 5 = .ok (.if_icmp .eq 5, 3) := by decide +kernel
theorem d_S_isChanged_8 : decode b_S_isChanged 8 = .ok (.iconst 1, 1) := by decide +kernel
theorem d_S_isChanged_9 : decode b_S_isChanged 9 = .ok (.ireturn, 1) := by decide +kernel
theorem d_S_isChanged_10 : decode b_S_isChanged 10 = .ok (.aload_n 0, 1) := by decide +kernel
theorem d_S_isChanged_11 : decode b_S_isChanged 11 = .ok (.aload_n 1, 1) := by decide +kernel
theorem d_S_isChanged_12 : decode b_S_isChanged 12 = .ok (.getfield 169, 3) := by decide +kernel
theorem d_S_isChanged_15 : decode b_S_isChanged 15 = .ok (.invokevirtual 77, 3) := by decide +kernel
theorem d_S_isChanged_18 : decode b_S_isChanged 18 = .ok (.astore_n 2, 1) := by decide +kernel
theorem d_S_isChanged_19 : decode b_S_isChanged 19 = .ok (.aload_n 2, 1) := by decide +kernel
theorem d_S_isChanged_20 : decode b_S_isChanged 20 = .ok (.ifnonnull 5, 3) := by decide +kernel
theorem d_S_isChanged_23 : decode b_S_isChanged 23 = .ok (.iconst 0, 1) := by decide +kernel
theorem d_S_isChanged_24 : decode b_S_isChanged 24 = .ok (.ireturn, 1) := by decide +kernel
theorem d_S_isChanged_25 : decode b_S_isChanged 25 = .ok (.iconst 0, 1) := by decide +kernel
theorem d_S_isChanged_26 : decode b_S_isChanged 26 = .ok (.istore_n 3, 1) := by decide +kernel
theorem d_S_isChanged_27 : decode b_S_isChanged 27 = .ok (.iload_n 3, 1) := by decide +kernel
theorem d_S_isChanged_28 : decode b_S_isChanged 28 = .ok (.sipush 4096, 3) := by decide +kernel
theorem d_S_isChanged_31 : decode b_S_isChanged 31 = .ok (.if_icmp .ge 27, 3) := by decide +kernel
theorem d_S_isChanged_34 : decode b_S_isChanged 34 = .ok (.aload_n 1, 1) := by decide +kernel
theorem d_S_isChanged_35 : decode b_S_isChanged 35 = .ok (.getfield 132, 3) := by decide +kernel
theorem d_S_isChanged_38 : decode b_S_isChanged 38 = .ok (.iload_n 3, 1) := by decide +kernel
theorem d_S_isChanged_39 : decode b_S_isChanged 39 = .ok (.laload, 1) := by decide +kernel
theorem d_S_isChanged_40 : decode b_S_isChanged 40 = .ok (.aload_n 2, 1) := by decide +kernel
theorem d_S_isChanged_41 : decode b_S_isChanged 41 = .ok (.getfield 91, 3) := by decide +kernel
theorem d_S_isChanged_44 : decode b_S_isChanged 44 = .ok (.iload_n 3, 1) := by decide +kernel
theorem d_S_isChanged_45 : decode b_S_isChanged 45 = .ok (.laload, 1) := by decide +kernel
theorem d_S_isChanged_46 : decode b_S_isChanged 46 = .ok (.lcmp, 1) := by decide +kernel
theorem d_S_isChanged_47 : decode b_S_isChanged 47 = .ok (.ifCond .eq 5, 3) := by decide +kernel
theorem d_S_isChanged_50 : decode b_S_isChanged 50 = .ok (.iconst 1, 1) := by decide +kernel
theorem d_S_isChanged_51 : decode b_S_isChanged 51 = .ok (.ireturn, 1) := by decide +kernel
theorem d_S_isChanged_52 : decode b_S_isChanged 52 = .ok (.iinc 3 1, 3) := by decide +kernel
theorem d_S_isChanged_55 : decode b_S_isChanged 55 = .ok (.goto (-28), 3) := by decide +kernel
theorem d_S_isChanged_58 : decode b_S_isChanged 58 = .ok (.iconst 0, 1) := by decide +kernel
theorem d_S_isChanged_59 : decode b_S_isChanged 59 = .ok (.ireturn, 1) := by decide +kernel
theorem d_S_blocks_0 : decode b_S_blocks 0 = .ok (.iload_n 1, 1) := by decide +kernel
theorem d_S_blocks_1 : decode b_S_blocks 1 = .ok (.invokestatic 73, 3) := by decide +kernel
theorem d_S_blocks_4 : decode b_S_blocks 4 = .ok (.ifCond .ne 5, 3) := by decide +kernel
theorem d_S_blocks_7 : decode b_S_blocks 7 = .ok (.iconst (-1), 1) := by decide +kernel
theorem d_S_blocks_8 : decode b_S_blocks 8 = .ok (.ireturn, 1) := by decide +kernel
theorem d_S_blocks_9 : decode b_S_blocks 9 = .ok (.aload_n 0, 1) := by decide +kernel
theorem d_S_blocks_10 : decode b_S_blocks 10 = .ok (.getfield 274, 3) := by decide +kernel
theorem d_S_blocks_13 : decode b_S_blocks 13 = .ok (.ifnonnull 14, 3) := by decide +kernel
theorem d_S_blocks_16 : decode b_S_blocks 16 = .ok (.aload_n 0, 1) := by decide +kernel
theorem d_S_blocks_17 : decode b_S_blocks 17 = .ok (.new 278, 3) := by decide +kernel
theorem d_S_blocks_20 : decode b_S_blocks 20 = .ok (.dup, 1) := by decide +kernel
theorem d_S_blocks_21 : decode b_S_blocks 21 = .ok (.invokespecial 280, 3) := by decide +kernel
theorem d_S_blocks_24 : decode b_S_blocks 24 = .ok (.putfield 274, 3) := by decide +kernel
theorem d_S_blocks_27 : decode b_S_blocks 27 = .ok (.aload_n 0, 1) := by decide +kernel
theorem d_S_blocks_28 : decode b_S_blocks 28 = .ok (.getfield 274, 3) := by decide +kernel
theorem d_S_blocks_31 : decode b_S_blocks 31 = .ok (.invokevirtual 281, 3) := by decide +kernel
theorem d_S_blocks_34 : decode b_S_blocks 34 = .ok (.iconst 0, 1) := by decide +kernel
theorem d_S_blocks_35 : decode b_S_blocks 35 = .ok (.istore_n 2, 1) := by decide +kernel
theorem d_S_blocks_36 : decode b_S_blocks 36 = .ok (.iload_n 2, 1) := by decide +kernel
theorem d_S_blocks_37 : decode b_S_blocks 37 = .ok (.bipush 28, 2) := by decide +kernel
theorem d_S_blocks_39 : decode b_S_blocks 39 = .ok (.if_icmp .ge 28, 3) := by decide +kernel
theorem d_S_blocks_42 : decode b_S_blocks 42 = .ok (.aload_n 0, 1) := by decide +kernel
theorem d_S_blocks_43 : decode b_S_blocks 43 = .ok (.iload_n 2, 1) := by decide +kernel
theorem d_S_blocks_44 : decode b_S_blocks 44 = .ok (.invokevirtual 248, 3) := by decide +kernel
theorem d_S_blocks_47 : decode b_S_blocks 47 = .ok (.astore_n 3, 1) := by decide +kernel
theorem d_S_blocks_48 : decode b_S_blocks 48 = .ok (.aload_n 3, 1) := by decide +kernel
theorem d_S_blocks_49 : decode b_S_blocks 49 = .ok (.ifnull 12, 3) := by decide +kernel
theorem d_S_blocks_52 : decode b_S_blocks 52 = .ok (.aload_n 0, 1) := by decide +kernel
theorem d_S_blocks_53 : decode b_S_blocks 53 = .ok (.getfield 274, 3) := by decide +kernel
theorem d_S_blocks_56 : decode b_S_blocks 56 = .ok (.aload_n 3, 1) := by decide +kernel
theorem d_S_blocks_57 : decode b_S_blocks 57 = .ok (.iload_n 1, 1) := by decide +kernel
theorem d_S_blocks_58 : decode b_S_blocks 58 = .ok (.invokevirtual 284, 3) := by decide +kernel
theorem d_S_blocks_61 : decode b_S_blocks 61 = .ok (.iinc 2 1, 3) := by decide +kernel
theorem d_S_blocks_64 : decode b_S_blocks 64 = .ok (.goto (-28), 3) := by decide +kernel
theorem d_S_blocks_67 : decode b_S_blocks 67 = .ok (.aload_n 0, 1) := by decide +kernel
theorem d_S_blocks_68 : decode b_S_blocks 68 = .ok (.getfield 274, 3) := by decide +kernel
theorem d_S_blocks_71 : decode b_S_blocks 71 = .ok (.getfield 287, 3) := by decide +kernel
theorem d_S_blocks_74 : decode b_S_blocks 74 = .ok (.ireturn, 1) := by decide +kernel
theorem d_T_init_0 : decode b_T_init 0 = .ok (.aload_n 0, 1) := by decide +kernel
theorem d_T_init_1 : decode b_T_init 1 = .ok (.invokespecial 3, 3) := by decide +kernel
theorem d_T_init_4 : decode b_T_init 4 = .ok (.aload_n 0, 1) := by decide +kernel
theorem d_T_init_5 : decode b_T_init 5 = .ok (.sipush 28672, 3) := by decide +kernel
theorem d_T_init_8 : decode b_T_init 8 = .ok (.newarray .int, 2) := by decide +kernel
theorem d_T_init_10 : decode b_T_init 10 = .ok (.putfield 9, 3) := by decide +kernel
theorem d_T_init_13 : decode b_T_init 13 = .ok (.aload_n 0, 1) := by decide +kernel
theorem d_T_init_14 : decode b_T_init 14 = .ok (.sipush 4096, 3) := by decide +kernel
theorem d_T_init_17 : decode b_T_init 17 = .ok (.newarray .int, 2) := by decide +kernel
theorem d_T_init_19 : decode b_T_init 19 = .ok (.putfield 15, 3) := by decide +kernel
theorem d_T_init_22 : decode b_T_init 22 = .ok (.return_, 1) := by decide +kernel
theorem d_T_forget_0 : decode b_T_forget 0 = .ok (.aload_n 0, 1) := by decide +kernel
theorem d_T_forget_1 : decode b_T_forget 1 = .ok (.getfield 15, 3) := by decide +kernel
theorem d_T_forget_4 : decode b_T_forget 4 = .ok (.iconst 0, 1) := by decide +kernel
theorem d_T_forget_5 : decode b_T_forget 5 = .ok (.invokestatic 18, 3) := by decide +kernel
theorem d_T_forget_8 : decode b_T_forget 8 = .ok (.aload_n 0, 1) := by decide +kernel
theorem d_T_forget_9 : decode b_T_forget 9 = .ok (.iconst 0, 1) := by decide +kernel
theorem d_T_forget_10 : decode b_T_forget 10 = .ok (.putfield 24, 3) := by decide +kernel
theorem d_T_forget_13 : decode b_T_forget 13 = .ok (.return_, 1) := by decide +kernel
theorem d_T_addAll_0 : decode b_T_addAll 0 = .ok (.iconst 0, 1) := by decide +kernel
theorem d_T_addAll_1 : decode b_T_addAll 1 = .ok (.istore_n 3, 1) := by decide +kernel
theorem d_T_addAll_2 : decode b_T_addAll 2 = .ok (.iload_n 3, 1) := by decide +kernel
theorem d_T_addAll_3 : decode b_T_addAll 3 = .ok (.bipush 32, 2) := by decide +kernel
theorem d_T_addAll_5 : decode b_T_addAll 5 = .ok (.if_icmp .ge 54, 3) := by decide +kernel
theorem d_T_addAll_8 : decode b_T_addAll 8 = .ok (.iconst 0, 1) := by decide +kernel
theorem d_T_addAll_9 : decode b_T_addAll 9 = .ok (.istore 4, 2) := by decide +kernel
theorem d_T_addAll_11 : decode b_T_addAll 11 = .ok (.iload 4, 2) := by decide +kernel
theorem d_T_addAll_13 : decode b_T_addAll 13 = .ok (.bipush 32, 2) := by decide +kernel
theorem d_T_addAll_15 : decode b_T_addAll 15 = .ok (.if_icmp .ge 38, 3) := by decide +kernel
theorem d_T_addAll_18 : decode b_T_addAll 18 = .ok (.aload_n 0, 1) := by decide +kernel
theorem d_T_addAll_19 : decode b_T_addAll 19 = .ok (.getfield 24, 3) := by decide +kernel
theorem d_T_addAll_22 : decode b_T_addAll 22 = .ok (.sipush 1792, 3) := by decide +kernel
theorem d_T_addAll_25 : decode b_T_addAll 25 = .ok (.if_icmp .ge 22, 3) := by decide +kernel
theorem d_T_addAll_28 : decode b_T_addAll 28 = .ok (.aload_n 0, 1) := by decide +kernel
theorem d_T_addAll_29 : decode b_T_addAll 29 = .ok (.aload_n 1, 1) := by decide +kernel
theorem d_T_addAll_30 : decode b_T_addAll 30 = .ok (.iload_n 2, 1) := by decide +kernel
theorem d_T_addAll_31 : decode b_T_addAll 31 = .ok (.iload 4, 2) := by decide +kernel
theorem d_T_addAll_33 : decode b_T_addAll 33 = .ok (.iload_n 3, 1) := by decide +kernel
theorem d_T_addAll_34 : decode b_T_addAll 34 = .ok (.invokestatic 28, 3) := by decide +kernel
theorem d_T_addAll_37 : decode b_T_addAll 37 = .ok (.invokevirtual 32, 3) := by decide +kernel
theorem d_T_addAll_40 : decode b_T_addAll 40 = .ok (.ifCond .eq 7, 3) := by decide +kernel
theorem d_T_addAll_43 : decode b_T_addAll 43 = .ok (.aload_n 0, 1) := by decide +kernel
theorem d_T_addAll_44 : decode b_T_addAll 44 = .ok (.invokevirtual 36, 3) := by decide +kernel
theorem d_T_addAll_47 : decode b_T_addAll 47 = .ok (.iinc 4 4, 3) := by decide +kernel
theorem d_T_addAll_50 : decode b_T_addAll 50 = .ok (.goto (-39), 3) := by decide +kernel
theorem d_T_addAll_53 : decode b_T_addAll 53 = .ok (.iinc 3 4, 3) := by decide +kernel
theorem d_T_addAll_56 : decode b_T_addAll 56 = .ok (.goto (-54), 3) := by decide +kernel
theorem d_T_addAll_59 : decode b_T_addAll 59 = .ok (.return_, 1) := by decide +kernel
theorem d_T_read_0 : decode b_T_read 0 = .ok (.iconst 0, 1) := by decide +kernel
theorem d_T_read_1 : decode b_T_read 1 = .ok (.istore_n 3, 1) := by decide +kernel
theorem d_T_read_2 : decode b_T_read 2 = .ok (.aload_n 0, 1) := by decide +kernel
theorem d_T_read_3 : decode b_T_read 3 = .ok (.getfield 24, 3) := by decide +kernel
theorem d_T_read_6 : decode b_T_read 6 = .ok (.bipush 16, 2) := by decide +kernel
theorem d_T_read_8 : decode b_T_read 8 = .ok (.imul, 1) := by decide +kernel
theorem d_T_read_9 : decode b_T_read 9 = .ok (.istore 4, 2) := by decide +kernel
theorem d_T_read_11 : decode b_T_read 11 = .ok (.iconst 0, 1) := by decide +kernel
theorem d_T_read_12 : decode b_T_read 12 = .ok (.istore 5, 2) := by decide +kernel
theorem d_T_read_14 : decode b_T_read 14 = .ok (.iload 5, 2) := by decide +kernel
theorem d_T_read_16 : decode b_T_read 16 = .ok (.bipush 16, 2) := by decide +kernel
theorem d_T_read_18 : decode b_T_read 18 = .ok (.if_icmp .ge 59, 3) := by decide +kernel
theorem d_T_read_21 : decode b_T_read 21 = .ok (.aload_n 1, 1) := by decide +kernel
theorem d_T_read_22 : decode b_T_read 22 = .ok (.iload_n 2, 1) := by decide +kernel
theorem d_T_read_23 : decode b_T_read 23 = .ok (.iload 5, 2) := by decide +kernel
theorem d_T_read_25 : decode b_T_read 25 = .ok (.iconst 4, 1) := by decide +kernel
theorem d_T_read_26 : decode b_T_read 26 = .ok (.idiv, 1) := by decide +kernel
theorem d_T_read_27 : decode b_T_read 27 = .ok (.bipush 32, 2) := by decide +kernel
theorem d_T_read_29 : decode b_T_read 29 = .ok (.imul, 1) := by decide +kernel
theorem d_T_read_30 : decode b_T_read 30 = .ok (.iadd, 1) := by decide +kernel
theorem d_T_read_31 : decode b_T_read 31 = .ok (.iload 5, 2) := by decide +kernel
theorem d_T_read_33 : decode b_T_read 33 = .ok (.iconst 4, 1) := by decide +kernel
theorem d_T_read_34 : decode b_T_read 34 = .ok (.irem, 1) := by decide +kernel
theorem d_T_read_35 : decode b_T_read 35 = .ok (.iadd, 1) := by decide +kernel
theorem d_T_read_36 : decode b_T_read 36 = .ok (.laload, 1) := by decide +kernel
theorem d_T_read_37 : decode b_T_read 37 = .ok (.invokestatic 39, 3) := by decide +kernel
theorem d_T_read_40 : decode b_T_read 40 = .ok (.istore 6, 2) := by decide +kernel
theorem d_T_read_42 : decode b_T_read 42 = .ok (.aload_n 0, 1) := by decide +kernel
theorem d_T_read_43 : decode b_T_read 43 = .ok (.getfield 9, 3) := by decide +kernel
theorem d_T_read_46 : decode b_T_read 46 = .ok (.iload 4, 2) := by decide +kernel
theorem d_T_read_48 : decode b_T_read 48 = .ok (.iload 5, 2) := by decide +kernel
theorem d_T_read_50 : decode b_T_read 50 = .ok (.iadd, 1) := by decide +kernel
theorem d_T_read_51 : decode b_T_read 51 = .ok (.iload 6, 2) := by decide +kernel
theorem d_T_read_53 : decode b_T_read 53 = .ok (.iastore, 1) := by decide +kernel
theorem d_T_read_54 : decode b_T_read 54 = .ok (.iload_n 3, 1) := by decide +kernel
theorem d_T_read_55 : decode b_T_read 55 = .ok (.ifCond .ne 10, 3) := by decide +kernel
theorem d_T_read_58 : decode b_T_read 58 = .ok (.iload 6, 2) := by decide +kernel
theorem d_T_read_60 : decode b_T_read 60 = .ok (.ldc 43, 2) := by decide +kernel
theorem d_T_read_62 : decode b_T_read 62 = .ok (.if_icmp .eq 7, 3) := by decide +kernel
theorem d_T_read_65 : decode b_T_read 65 = .ok (.iconst 1, 1) := by decide +kernel
theorem d_T_read_66 : decode b_T_read 66 = .ok (.goto 4, 3) := by decide +kernel
theorem d_T_read_69 : decode b_T_read 69 = .ok (.iconst 0, 1) := by decide +kernel
theorem d_T_read_70 : decode b_T_read 70 = .ok (.istore_n 3, 1) := by decide +kernel
theorem d_T_read_71 : decode b_T_read 71 = .ok (.iinc 5 1, 3) := by decide +kernel
theorem d_T_read_74 : decode b_T_read 74 = .ok (.goto (-60), 3) := by decide +kernel
theorem d_T_read_77 : decode b_T_read 77 = .ok (.iload_n 3, 1) := by decide +kernel
theorem d_T_read_78 : decode b_T_read 78 = .ok (.ireturn, 1) := by decide +kernel
theorem d_T_keepIfNew_0 : decode b_T_keepIfNew 0 = .ok (.aload_n 0, 1) := by decide +kernel
theorem d_T_keepIfNew_1 : decode b_T_keepIfNew 1 = .ok (.aload_n 0, 1) := by decide +kernel
theorem d_T_keepIfNew_2 : decode b_T_keepIfNew 2 = .ok (.getfield 24, 3) := by decide +kernel
theorem d_T_keepIfNew_5 : decode b_T_keepIfNew 5 = .ok (.invokevirtual 44, 3) := by decide +kernel
theorem d_T_keepIfNew_8 : decode b_T_keepIfNew 8 = .ok (.bipush 20, 2) := by decide +kernel
theorem d_T_keepIfNew_10 : decode b_T_keepIfNew 10 = .ok (.iushr, 1) := by decide +kernel
theorem d_T_keepIfNew_11 : decode b_T_keepIfNew 11 = .ok (.istore_n 1, 1) := by decide +kernel
theorem d_T_keepIfNew_12 : decode b_T_keepIfNew 12 = .ok (.iconst 0, 1) := by decide +kernel
theorem d_T_keepIfNew_13 : decode b_T_keepIfNew 13 = .ok (.istore_n 2, 1) := by decide +kernel
theorem d_T_keepIfNew_14 : decode b_T_keepIfNew 14 = .ok (.iload_n 2, 1) := by decide +kernel
theorem d_T_keepIfNew_15 : decode b_T_keepIfNew 15 = .ok (.sipush 4096, 3) := by decide +kernel
theorem d_T_keepIfNew_18 : decode b_T_keepIfNew 18 = .ok (.if_icmp .ge 67, 3) := by decide +kernel
theorem d_T_keepIfNew_21 : decode b_T_keepIfNew 21 = .ok (.aload_n 0, 1) := by decide +kernel
theorem d_T_keepIfNew_22 : decode b_T_keepIfNew 22 = .ok (.getfield 15, 3) := by decide +kernel
theorem d_T_keepIfNew_25 : decode b_T_keepIfNew 25 = .ok (.iload_n 1, 1) := by decide +kernel
theorem d_T_keepIfNew_26 : decode b_T_keepIfNew 26 = .ok (.iaload, 1) := by decide +kernel
theorem d_T_keepIfNew_27 : decode b_T_keepIfNew 27 = .ok (.ifCond .ne 24, 3) := by decide +kernel
theorem d_T_keepIfNew_30 : decode b_T_keepIfNew 30 = .ok (.aload_n 0, 1) := by decide +kernel
theorem d_T_keepIfNew_31 : decode b_T_keepIfNew 31 = .ok (.dup, 1) := by decide +kernel
theorem d_T_keepIfNew_32 : decode b_T_keepIfNew 32 = .ok (.getfield 24, 3) := by decide +kernel
theorem d_T_keepIfNew_35 : decode b_T_keepIfNew 35 = .ok (.iconst 1, 1) := by decide +kernel
theorem d_T_keepIfNew_36 : decode b_T_keepIfNew 36 = .ok (.iadd, 1) := by decide +kernel
theorem d_T_keepIfNew_37 : decode b_T_keepIfNew 37 = .ok (.putfield 24, 3) := by decide +kernel
theorem d_T_keepIfNew_40 : decode b_T_keepIfNew 40 = .ok (.aload_n 0, 1) := by decide +kernel
theorem d_T_keepIfNew_41 : decode b_T_keepIfNew 41 = .ok (.getfield 15, 3) := by decide +kernel
theorem d_T_keepIfNew_44 : decode b_T_keepIfNew 44 = .ok (.iload_n 1, 1) := by decide +kernel
theorem d_T_keepIfNew_45 : decode b_T_keepIfNew 45 = .ok (.aload_n 0, 1) := by decide +kernel
theorem d_T_keepIfNew_46 : decode b_T_keepIfNew 46 = .ok (.getfield 24, 3) := by decide +kernel
theorem d_T_keepIfNew_49 : decode b_T_keepIfNew 49 = .ok (.iastore, 1) := by decide +kernel
theorem d_T_keepIfNew_50 : decode b_T_keepIfNew 50 = .ok (.return_, 1) := by decide +kernel
theorem d_T_keepIfNew_51 : decode b_T_keepIfNew 51 = .ok (.aload_n 0, 1) := by decide +kernel
theorem d_T_keepIfNew_52 : decode b_T_keepIfNew 52 = .ok (.aload_n 0, 1) := by decide +kernel
theorem d_T_keepIfNew_53 : decode b_T_keepIfNew 53 = .ok (.getfield 15, 3) := by decide +kernel
theorem d_T_keepIfNew_56 : decode b_T_keepIfNew 56 = .ok (.iload_n 1, 1) := by decide +kernel
theorem d_T_keepIfNew_57 : decode b_T_keepIfNew 57 = .ok (.iaload, 1) := by decide +kernel
theorem d_T_keepIfNew_58 : decode b_T_keepIfNew 58 = .ok (.iconst 1, 1) := by decide +kernel
theorem d_T_keepIfNew_59 : decode b_T_keepIfNew 59 = .ok (.isub, 1) := by decide +kernel
theorem d_T_keepIfNew_60 : decode b_T_keepIfNew 60 = .ok (.aload_n 0, 1) := by decide +kernel
theorem d_T_keepIfNew_61 : decode b_T_keepIfNew 61 = .ok (.getfield 24, 3) := by decide +kernel
theorem d_T_keepIfNew_64 : decode b_T_keepIfNew 64 = .ok (.invokevirtual 48, 3) := by decide +kernel
theorem d_T_keepIfNew_67 : decode b_T_keepIfNew 67 = .ok (.ifCond .eq 4, 3) := by decide +kernel
theorem d_T_keepIfNew_70 : decode b_T_keepIfNew 70 = .ok (.return_, 1) := by decide +kernel
theorem d_T_keepIfNew_71 : decode b_T_keepIfNew 71 = .ok (.iload_n 1, 1) := by decide +kernel
theorem d_T_keepIfNew_72 : decode b_T_keepIfNew 72 = .ok (.iconst 1, 1) := by decide +kernel
theorem d_T_keepIfNew_73 : decode b_T_keepIfNew 73 = .ok (.iadd, 1) := by decide +kernel
theorem d_T_keepIfNew_74 : decode b_T_keepIfNew 74 = .ok (.sipush 4096, 3) := by decide +kernel
theorem d_T_keepIfNew_77 : decode b_T_keepIfNew 77 = .ok (.irem, 1) := by decide +kernel
theorem d_T_keepIfNew_78 : decode b_T_keepIfNew 78 = .ok (.istore_n 1, 1) := by decide +kernel
theorem d_T_keepIfNew_79 : decode b_T_keepIfNew 79 = .ok (.iinc 2 1, 3) := by decide +kernel
theorem d_T_keepIfNew_82 : decode b_T_keepIfNew 82 = .ok (.goto (-68), 3) := by decide +kernel
theorem d_T_keepIfNew_85 : decode b_T_keepIfNew 85 = .ok (.return_, 1) := by decide +kernel
theorem d_T_hash_0 : decode b_T_hash 0 = .ok (.iconst 0, 1) := by decide +kernel
theorem d_T_hash_1 : decode b_T_hash 1 = .ok (.istore_n 2, 1) := by decide +kernel
theorem d_T_hash_2 : decode b_T_hash 2 = .ok (.iload_n 1, 1) := by decide +kernel
theorem d_T_hash_3 : decode b_T_hash 3 = .ok (.bipush 16, 2) := by decide +kernel
theorem d_T_hash_5 : decode b_T_hash 5 = .ok (.imul, 1) := by decide +kernel
theorem d_T_hash_6 : decode b_T_hash 6 = .ok (.istore_n 3, 1) := by decide +kernel
theorem d_T_hash_7 : decode b_T_hash 7 = .ok (.iconst 0, 1) := by decide +kernel
theorem d_T_hash_8 : decode b_T_hash 8 = .ok (.istore 4, 2) := by decide +kernel
theorem d_T_hash_10 : decode b_T_hash 10 = .ok (.iload 4, 2) := by decide +kernel
theorem d_T_hash_12 : decode b_T_hash 12 = .ok (.bipush 16, 2) := by decide +kernel
theorem d_T_hash_14 : decode b_T_hash 14 = .ok (.if_icmp .ge 31, 3) := by decide +kernel
theorem d_T_hash_17 : decode b_T_hash 17 = .ok (.iload_n 2, 1) := by decide +kernel
theorem d_T_hash_18 : decode b_T_hash 18 = .ok (.aload_n 0, 1) := by decide +kernel
theorem d_T_hash_19 : decode b_T_hash 19 = .ok (.getfield 9, 3) := by decide +kernel
theorem d_T_hash_22 : decode b_T_hash 22 = .ok (.iload_n 3, 1) := by decide +kernel
theorem d_T_hash_23 : decode b_T_hash 23 = .ok (.iload 4, 2) := by decide +kernel
theorem d_T_hash_25 : decode b_T_hash 25 = .ok (.iadd, 1) := by decide +kernel
theorem d_T_hash_26 : decode b_T_hash 26 = .ok (.iaload, 1) := by decide +kernel
theorem d_T_hash_27 : decode b_T_hash 27 = .ok (.ixor, 1) := by decide +kernel
theorem d_T_hash_28 : decode b_T_hash 28 = .ok (.ldc 52, 2) := by decide +kernel
theorem d_T_hash_30 : decode b_T_hash 30 = .ok (.imul, 1) := by decide +kernel
theorem d_T_hash_31 : decode b_T_hash 31 = .ok (.istore_n 2, 1) := by decide +kernel
theorem d_T_hash_32 : decode b_T_hash 32 = .ok (.iload_n 2, 1) := by decide +kernel
theorem d_T_hash_33 : decode b_T_hash 33 = .ok (.iload_n 2, 1) := by decide +kernel
theorem d_T_hash_34 : decode b_T_hash 34 = .ok (.bipush 15, 2) := by decide +kernel
theorem d_T_hash_36 : decode b_T_hash 36 = .ok (.iushr, 1) := by decide +kernel
theorem d_T_hash_37 : decode b_T_hash 37 = .ok (.ixor, 1) := by decide +kernel
theorem d_T_hash_38 : decode b_T_hash 38 = .ok (.istore_n 2, 1) := by decide +kernel
theorem d_T_hash_39 : decode b_T_hash 39 = .ok (.iinc 4 1, 3) := by decide +kernel
theorem d_T_hash_42 : decode b_T_hash 42 = .ok (.goto (-32), 3) := by decide +kernel
theorem d_T_hash_45 : decode b_T_hash 45 = .ok (.iload_n 2, 1) := by decide +kernel
theorem d_T_hash_46 : decode b_T_hash 46 = .ok (.ldc 52, 2) := by decide +kernel
theorem d_T_hash_48 : decode b_T_hash 48 = .ok (.imul, 1) := by decide +kernel
theorem d_T_hash_49 : decode b_T_hash 49 = .ok (.ireturn, 1) := by decide +kernel
theorem d_T_isSame_0 : decode b_T_isSame 0 = .ok (.iload_n 1, 1) := by decide +kernel
theorem d_T_isSame_1 : decode b_T_isSame 1 = .ok (.bipush 16, 2) := by decide +kernel
theorem d_T_isSame_3 : decode b_T_isSame 3 = .ok (.imul, 1) := by decide +kernel
theorem d_T_isSame_4 : decode b_T_isSame 4 = .ok (.istore_n 3, 1) := by decide +kernel
theorem d_T_isSame_5 : decode b_T_isSame 5 = .ok (.iload_n 2, 1) := by decide +kernel
theorem d_T_isSame_6 : decode b_T_isSame 6 = .ok (.bipush 16, 2) := by decide +kernel
theorem d_T_isSame_8 : decode b_T_isSame 8 = .ok (.imul, 1) := by decide +kernel
theorem d_T_isSame_9 : decode b_T_isSame 9 = .ok (.istore 4, 2) := by decide +kernel
theorem d_T_isSame_11 : decode b_T_isSame 11 = .ok (.iconst 0, 1) := by decide +kernel
theorem d_T_isSame_12 : decode b_T_isSame 12 = .ok (.istore 5, 2) := by decide +kernel
theorem d_T_isSame_14 : decode b_T_isSame 14 = .ok (.iload 5, 2) := by decide +kernel
theorem d_T_isSame_16 : decode b_T_isSame 16 = .ok (.bipush 16, 2) := by decide +kernel
theorem d_T_isSame_18 : decode b_T_isSame 18 = .ok (.if_icmp .ge 33, 3) := by decide +kernel
theorem d_T_isSame_21 : decode b_T_isSame 21 = .ok (.aload_n 0, 1) := by decide +kernel
theorem d_T_isSame_22 : decode b_T_isSame 22 = .ok (.getfield 9, 3) := by decide +kernel
theorem d_T_isSame_25 : decode b_T_isSame 25 = .ok (.iload_n 3, 1) := by decide +kernel
theorem d_T_isSame_26 : decode b_T_isSame 26 = .ok (.iload 5, 2) := by decide +kernel
theorem d_T_isSame_28 : decode b_T_isSame 28 = .ok (.iadd, 1) := by decide +kernel
theorem d_T_isSame_29 : decode b_T_isSame 29 = .ok (.iaload, 1) := by decide +kernel
theorem d_T_isSame_30 : decode b_T_isSame 30 = .ok (.aload_n 0, 1) := by decide +kernel
theorem d_T_isSame_31 : decode b_T_isSame 31 = .ok (.getfield 9, 3) := by decide +kernel
theorem d_T_isSame_34 : decode b_T_isSame 34 = .ok (.iload 4, 2) := by decide +kernel
theorem d_T_isSame_36 : decode b_T_isSame 36 = .ok (.iload 5, 2) := by decide +kernel
theorem d_T_isSame_38 : decode b_T_isSame 38 = .ok (.iadd, 1) := by decide +kernel
theorem d_T_isSame_39 : decode b_T_isSame 39 = .ok (.iaload, 1) := by decide +kernel
theorem d_T_isSame_40 : decode b_T_isSame 40 = .ok (.if_icmp .eq 5, 3) := by decide +kernel
theorem d_T_isSame_43 : decode b_T_isSame 43 = .ok (.iconst 0, 1) := by decide +kernel
theorem d_T_isSame_44 : decode b_T_isSame 44 = .ok (.ireturn, 1) := by decide +kernel
theorem d_T_isSame_45 : decode b_T_isSame 45 = .ok (.iinc 5 1, 3) := by decide +kernel
theorem d_T_isSame_48 : decode b_T_isSame 48 = .ok (.goto (-34), 3) := by decide +kernel
theorem d_T_isSame_51 : decode b_T_isSame 51 = .ok (.iconst 1, 1) := by decide +kernel
theorem d_T_isSame_52 : decode b_T_isSame 52 = .ok (.ireturn, 1) := by decide +kernel
theorem d_S_branch_0 : decode b_S_branch 0 = .ok (.aload_n 0, 1) := by decide +kernel
theorem d_S_branch_1 : decode b_S_branch 1 = .ok (.iload_n 2, 1) := by decide +kernel
theorem d_S_branch_2 : decode b_S_branch 2 = .ok (.invokevirtual 77, 3) := by decide +kernel
theorem d_S_branch_5 : decode b_S_branch 5 = .ok (.astore_n 3, 1) := by decide +kernel
theorem d_S_branch_6 : decode b_S_branch 6 = .ok (.iload_n 1, 1) := by decide +kernel
theorem d_S_branch_7 : decode b_S_branch 7 = .ok (.ifCond .lt 12, 3) := by decide +kernel
theorem d_S_branch_10 : decode b_S_branch 10 = .ok (.iload_n 1, 1) := by decide +kernel
theorem d_S_branch_11 : decode b_S_branch 11 = .ok (.iconst 4, 1) := by decide +kernel
theorem d_S_branch_12 : decode b_S_branch 12 = .ok (.if_icmp .ge 7, 3) := by decide +kernel
theorem d_S_branch_15 : decode b_S_branch 15 = .ok (.aload_n 3, 1) := by decide +kernel
theorem d_S_branch_16 : decode b_S_branch 16 = .ok (.ifnonnull 11, 3) := by decide +kernel
theorem d_S_branch_19 : decode b_S_branch 19 = .ok (.new 81, 3) := by decide +kernel
theorem d_S_branch_22 : decode b_S_branch 22 = .ok (.dup, 1) := by decide +kernel
theorem d_S_branch_23 : decode b_S_branch 23 = .ok (.invokespecial 83, 3) := by decide +kernel
theorem d_S_branch_26 : decode b_S_branch 26 = .ok (.athrow, 1) := by decide +kernel
theorem d_S_branch_27 : decode b_S_branch 27 = .ok (.aload_n 0, 1) := by decide +kernel
theorem d_S_branch_28 : decode b_S_branch 28 = .ok (.iload_n 1, 1) := by decide +kernel
theorem d_S_branch_29 : decode b_S_branch 29 = .ok (.invokevirtual 84, 3) := by decide +kernel
theorem d_S_branch_32 : decode b_S_branch 32 = .ok (.ifnull 11, 3) := by decide +kernel
theorem d_S_branch_35 : decode b_S_branch 35 = .ok (.new 88, 3) := by decide +kernel
theorem d_S_branch_38 : decode b_S_branch 38 = .ok (.dup, 1) := by decide +kernel
theorem d_S_branch_39 : decode b_S_branch 39 = .ok (.invokespecial 90, 3) := by decide +kernel
theorem d_S_branch_42 : decode b_S_branch 42 = .ok (.athrow, 1) := by decide +kernel
theorem d_S_branch_43 : decode b_S_branch 43 = .ok (.aload_n 0, 1) := by decide +kernel
theorem d_S_branch_44 : decode b_S_branch 44 = .ok (.getfield 21, 3) := by decide +kernel
theorem d_S_branch_47 : decode b_S_branch 47 = .ok (.iload_n 1, 1) := by decide +kernel
theorem d_S_branch_48 : decode b_S_branch 48 = .ok (.aaload, 1) := by decide +kernel
theorem d_S_branch_49 : decode b_S_branch 49 = .ok (.ifnonnull 16, 3) := by decide +kernel
theorem d_S_branch_52 : decode b_S_branch 52 = .ok (.aload_n 0, 1) := by decide +kernel
theorem d_S_branch_53 : decode b_S_branch 53 = .ok (.getfield 21, 3) := by decide +kernel
theorem d_S_branch_56 : decode b_S_branch 56 = .ok (.iload_n 1, 1) := by decide +kernel
theorem d_S_branch_57 : decode b_S_branch 57 = .ok (.new 19, 3) := by decide +kernel
theorem d_S_branch_60 : decode b_S_branch 60 = .ok (.dup, 1) := by decide +kernel
theorem d_S_branch_61 : decode b_S_branch 61 = .ok (.invokespecial 58, 3) := by decide +kernel
theorem d_S_branch_64 : decode b_S_branch 64 = .ok (.aastore, 1) := by decide +kernel
theorem d_S_branch_65 : decode b_S_branch 65 = .ok (.aload_n 0, 1) := by decide +kernel
theorem d_S_branch_66 : decode b_S_branch 66 = .ok (.getfield 21, 3) := by decide +kernel
theorem d_S_branch_69 : decode b_S_branch 69 = .ok (.iload_n 1, 1) := by decide +kernel
theorem d_S_branch_70 : decode b_S_branch 70 = .ok (.aaload, 1) := by decide +kernel
theorem d_S_branch_71 : decode b_S_branch 71 = .ok (.iload_n 2, 1) := by decide +kernel
theorem d_S_branch_72 : decode b_S_branch 72 = .ok (.aload_n 3, 1) := by decide +kernel
theorem d_S_branch_73 : decode b_S_branch 73 = .ok (.getfield 91, 3) := by decide +kernel
theorem d_S_branch_76 : decode b_S_branch 76 = .ok (.invokevirtual 59, 3) := by decide +kernel
theorem d_S_branch_79 : decode b_S_branch 79 = .ok (.return_, 1) := by decide +kernel
theorem d_S_paint_0 : decode b_S_paint 0 = .ok (.aload_n 0, 1) := by decide +kernel
theorem d_S_paint_1 : decode b_S_paint 1 = .ok (.iload_n 1, 1) := by decide +kernel
theorem d_S_paint_2 : decode b_S_paint 2 = .ok (.iload_n 2, 1) := by decide +kernel
theorem d_S_paint_3 : decode b_S_paint 3 = .ok (.invokevirtual 109, 3) := by decide +kernel
theorem d_S_paint_6 : decode b_S_paint 6 = .ok (.astore 4, 2) := by decide +kernel
theorem d_S_paint_8 : decode b_S_paint 8 = .ok (.iload_n 3, 1) := by decide +kernel
theorem d_S_paint_9 : decode b_S_paint 9 = .ok (.invokestatic 113, 3) := by decide +kernel
theorem d_S_paint_12 : decode b_S_paint 12 = .ok (.aload_n 0, 1) := by decide +kernel
theorem d_S_paint_13 : decode b_S_paint 13 = .ok (.getfield 106, 3) := by decide +kernel
theorem d_S_paint_16 : decode b_S_paint 16 = .ok (.istore 5, 2) := by decide +kernel
theorem d_S_paint_18 : decode b_S_paint 18 = .ok (.iload 5, 2) := by decide +kernel
theorem d_S_paint_20 : decode b_S_paint 20 = .ok (.aload_n 0, 1) := by decide +kernel
theorem d_S_paint_21 : decode b_S_paint 21 = .ok (.getfield 106, 3) := by decide +kernel
theorem d_S_paint_24 : decode b_S_paint 24 = .ok (.aload_n 0, 1) := by decide +kernel
theorem d_S_paint_25 : decode b_S_paint 25 = .ok (.getfield 66, 3) := by decide +kernel
theorem d_S_paint_28 : decode b_S_paint 28 = .ok (.iadd, 1) := by decide +kernel
theorem d_S_paint_29 : decode b_S_paint 29 = .ok (.if_icmp .ge 49, 3) := by decide +kernel
theorem d_S_paint_32 : decode b_S_paint 32 = .ok (.aload_n 0, 1) := by decide +kernel
theorem d_S_paint_33 : decode b_S_paint 33 = .ok (.getfield 103, 3) := by decide +kernel
theorem d_S_paint_36 : decode b_S_paint 36 = .ok (.istore 6, 2) := by decide +kernel
theorem d_S_paint_38 : decode b_S_paint 38 = .ok (.iload 6, 2) := by decide +kernel
theorem d_S_paint_40 : decode b_S_paint 40 = .ok (.aload_n 0, 1) := by decide +kernel
theorem d_S_paint_41 : decode b_S_paint 41 = .ok (.getfield 103, 3) := by decide +kernel
theorem d_S_paint_44 : decode b_S_paint 44 = .ok (.aload_n 0, 1) := by decide +kernel
theorem d_S_paint_45 : decode b_S_paint 45 = .ok (.getfield 63, 3) := by decide +kernel
theorem d_S_paint_48 : decode b_S_paint 48 = .ok (.iadd, 1) := by decide +kernel
theorem d_S_paint_49 : decode b_S_paint 49 = .ok (.if_icmp .ge 23, 3) := by decide +kernel
theorem d_S_paint_52 : decode b_S_paint 52 = .ok (.aload 4, 2) := by decide +kernel
theorem d_S_paint_54 : decode b_S_paint 54 = .ok (.iload_n 2, 1) := by decide +kernel
theorem d_S_paint_55 : decode b_S_paint 55 = .ok (.iload 6, 2) := by decide +kernel
theorem d_S_paint_57 : decode b_S_paint 57 = .ok (.iload 5, 2) := by decide +kernel
theorem d_S_paint_59 : decode b_S_paint 59 = .ok (.invokestatic 117, 3) := by decide +kernel
theorem d_S_paint_62 : decode b_S_paint 62 = .ok (.iload_n 3, 1) := by decide +kernel
theorem d_S_paint_63 : decode b_S_paint 63 = .ok (.invokevirtual 121, 3) := by decide +kernel
theorem d_S_paint_66 : decode b_S_paint 66 = .ok (.iinc 6 1, 3) := by decide +kernel
theorem d_S_paint_69 : decode b_S_paint 69 = .ok (.goto (-31), 3) := by decide +kernel
theorem d_S_paint_72 : decode b_S_paint 72 = .ok (.iinc 5 1, 3) := by decide +kernel
theorem d_S_paint_75 : decode b_S_paint 75 = .ok (.goto (-57), 3) := by decide +kernel
theorem d_S_paint_78 : decode b_S_paint 78 = .ok (.return_, 1) := by decide +kernel
theorem d_S_branchToEdit_0 : decode b_S_branchToEdit 0 = .ok (.aload_n 0, 1) := by decide +kernel
theorem d_S_branchToEdit_1 : decode b_S_branchToEdit 1 = .ok (.iload_n 1, 1) := by decide +kernel
theorem d_S_branchToEdit_2 : decode b_S_branchToEdit 2 = .ok (.invokevirtual 84, 3) := by decide +kernel
theorem d_S_branchToEdit_5 : decode b_S_branchToEdit 5 = .ok (.astore_n 3, 1) := by decide +kernel
theorem d_S_branchToEdit_6 : decode b_S_branchToEdit 6 = .ok (.aload_n 3, 1) := by decide +kernel
theorem d_S_branchToEdit_7 : decode b_S_branchToEdit 7 = .ok (.ifnull 10, 3) := by decide +kernel
theorem d_S_branchToEdit_10 : decode b_S_branchToEdit 10 = .ok (.iload_n 2, 1) := by decide +kernel
theorem d_S_branchToEdit_11 : decode b_S_branchToEdit 11 = .ok (.invokestatic 73, 3) := by decide +kernel
theorem d_S_branchToEdit_14 : decode b_S_branchToEdit 14 = .ok (.ifCond .ne 11, 3) := by decide +kernel
theorem d_S_branchToEdit_17 : decode b_S_branchToEdit 17 = .ok (.new 81, 3) := by decide +kernel
theorem d_S_branchToEdit_20 : decode b_S_branchToEdit 20 = .ok (.dup, 1) := by decide +kernel
theorem d_S_branchToEdit_21 : decode b_S_branchToEdit 21 = .ok (.invokespecial 83, 3) := by decide +kernel
theorem d_S_branchToEdit_24 : decode b_S_branchToEdit 24 = .ok (.athrow, 1) := by decide +kernel
theorem d_S_branchToEdit_25 : decode b_S_branchToEdit 25 = .ok (.aload_n 3, 1) := by decide +kernel
theorem d_S_branchToEdit_26 : decode b_S_branchToEdit 26 = .ok (.areturn, 1) := by decide +kernel
theorem d_S_refuseUnlessValue_0 : decode b_S_refuseUnlessValue 0 = .ok (.iload_n 0, 1) := by decide +kernel
theorem d_S_refuseUnlessValue_1 : decode b_S_refuseUnlessValue 1 = .ok (.invokestatic 139, 3) := by decide +kernel
theorem d_S_refuseUnlessValue_4 : decode b_S_refuseUnlessValue 4 = .ok (.ifCond .ne 11, 3) := by decide +kernel
theorem d_S_refuseUnlessValue_7 : decode b_S_refuseUnlessValue 7 = .ok (.new 81, 3) := by decide +kernel
theorem d_S_refuseUnlessValue_10 : decode b_S_refuseUnlessValue 10 = .ok (.dup, 1) := by decide +kernel
theorem d_S_refuseUnlessValue_11 : decode b_S_refuseUnlessValue 11 = .ok (.invokespecial 83, 3) := by decide +kernel
theorem d_S_refuseUnlessValue_14 : decode b_S_refuseUnlessValue 14 = .ok (.athrow, 1) := by decide +kernel
theorem d_S_refuseUnlessValue_15 : decode b_S_refuseUnlessValue 15 = .ok (.return_, 1) := by decide +kernel
theorem d_B_set_0 : decode b_B_set 0 = .ok (.aload_n 0, 1) := by decide +kernel
theorem d_B_set_1 : decode b_B_set 1 = .ok (.getfield 9, 3) := by decide +kernel
theorem d_B_set_4 : decode b_B_set 4 = .ok (.iload_n 1, 1) := by decide +kernel
theorem d_B_set_5 : decode b_B_set 5 = .ok (.iload_n 2, 1) := by decide +kernel
theorem d_B_set_6 : decode b_B_set 6 = .ok (.ldc 49, 2) := by decide +kernel
theorem d_B_set_8 : decode b_B_set 8 = .ok (.if_icmp .ne 9, 3) := by decide +kernel
theorem d_B_set_11 : decode b_B_set 11 = .ok (.ldc2_w 50, 3) := by decide +kernel
theorem d_B_set_14 : decode b_B_set 14 = .ok (.goto 13, 3) := by decide +kernel
theorem d_B_set_17 : decode b_B_set 17 = .ok (.iload_n 2, 1) := by decide +kernel
theorem d_B_set_18 : decode b_B_set 18 = .ok (.bipush 24, 2) := by decide +kernel
theorem d_B_set_20 : decode b_B_set 20 = .ok (.iload_n 1, 1) := by decide +kernel
theorem d_B_set_21 : decode b_B_set 21 = .ok (.invokestatic 52, 3) := by decide +kernel
theorem d_B_set_24 : decode b_B_set 24 = .ok (.invokestatic 56, 3) := by decide +kernel
theorem d_B_set_27 : decode b_B_set 27 = .ok (.lastore, 1) := by decide +kernel
theorem d_B_set_28 : decode b_B_set 28 = .ok (.return_, 1) := by decide +kernel
theorem d_S_originOf_0 : decode b_S_originOf 0 = .ok (.iload_n 0, 1) := by decide +kernel
theorem d_S_originOf_1 : decode b_S_originOf 1 = .ok (.bipush 12, 2) := by decide +kernel
theorem d_S_originOf_3 : decode b_S_originOf 3 = .ok (.ishl, 1) := by decide +kernel
theorem d_S_originOf_4 : decode b_S_originOf 4 = .ok (.iload_n 1, 1) := by decide +kernel
theorem d_S_originOf_5 : decode b_S_originOf 5 = .ok (.ior, 1) := by decide +kernel
theorem d_S_originOf_6 : decode b_S_originOf 6 = .ok (.ireturn, 1) := by decide +kernel
theorem d_S_cellOf_0 : decode b_S_cellOf 0 = .ok (.iload_n 0, 1) := by decide +kernel
theorem d_S_cellOf_1 : decode b_S_cellOf 1 = .ok (.i2l, 1) := by decide +kernel
theorem d_S_cellOf_2 : decode b_S_cellOf 2 = .ok (.bipush 32, 2) := by decide +kernel
theorem d_S_cellOf_4 : decode b_S_cellOf 4 = .ok (.lshl, 1) := by decide +kernel
theorem d_S_cellOf_5 : decode b_S_cellOf 5 = .ok (.iload_n 1, 1) := by decide +kernel
theorem d_S_cellOf_6 : decode b_S_cellOf 6 = .ok (.i2l, 1) := by decide +kernel
theorem d_S_cellOf_7 : decode b_S_cellOf 7 = .ok (.lor, 1) := by decide +kernel
theorem d_S_cellOf_8 : decode b_S_cellOf 8 = .ok (.lreturn, 1) := by decide +kernel
theorem d_S_polygon_0 : decode b_S_polygon 0 = .ok (.aload_n 0, 1) := by decide +kernel
theorem d_S_polygon_1 : decode b_S_polygon 1 = .ok (.iload_n 1, 1) := by decide +kernel
theorem d_S_polygon_2 : decode b_S_polygon 2 = .ok (.iload_n 2, 1) := by decide +kernel
theorem d_S_polygon_3 : decode b_S_polygon 3 = .ok (.invokevirtual 109, 3) := by decide +kernel
theorem d_S_polygon_6 : decode b_S_polygon 6 = .ok (.astore 5, 2) := by decide +kernel
theorem d_S_polygon_8 : decode b_S_polygon 8 = .ok (.iload 4, 2) := by decide +kernel
theorem d_S_polygon_10 : decode b_S_polygon 10 = .ok (.invokestatic 113, 3) := by decide +kernel
theorem d_S_polygon_13 : decode b_S_polygon 13 = .ok (.iload_n 3, 1) := by decide +kernel
theorem d_S_polygon_14 : decode b_S_polygon 14 = .ok (.iconst 3, 1) := by decide +kernel
theorem d_S_polygon_15 : decode b_S_polygon 15 = .ok (.if_icmp .lt 9, 3) := by decide +kernel
theorem d_S_polygon_18 : decode b_S_polygon 18 = .ok (.iload_n 3, 1) := by decide +kernel
theorem d_S_polygon_19 : decode b_S_polygon 19 = .ok (.bipush 6, 2) := by decide +kernel
theorem d_S_polygon_21 : decode b_S_polygon 21 = .ok (.if_icmp .le 11, 3) := by decide +kernel
theorem d_S_polygon_24 : decode b_S_polygon 24 = .ok (.new 81, 3) := by decide +kernel
theorem d_S_polygon_27 : decode b_S_polygon 27 = .ok (.dup, 1) := by decide +kernel
theorem d_S_polygon_28 : decode b_S_polygon 28 = .ok (.invokespecial 83, 3) := by decide +kernel
theorem d_S_polygon_31 : decode b_S_polygon 31 = .ok (.athrow, 1) := by decide +kernel
theorem d_S_polygon_32 : decode b_S_polygon 32 = .ok (.iconst 0, 1) := by decide +kernel
theorem d_S_polygon_33 : decode b_S_polygon 33 = .ok (.istore 6, 2) := by decide +kernel
theorem d_S_polygon_35 : decode b_S_polygon 35 = .ok (.iload 6, 2) := by decide +kernel
theorem d_S_polygon_37 : decode b_S_polygon 37 = .ok (.bipush 32, 2) := by decide +kernel
theorem d_S_polygon_39 : decode b_S_polygon 39 = .ok (.if_icmp .ge 52, 3) := by decide +kernel
theorem d_S_polygon_42 : decode b_S_polygon 42 = .ok (.iconst 0, 1) := by decide +kernel
theorem d_S_polygon_43 : decode b_S_polygon 43 = .ok (.istore 7, 2) := by decide +kernel
theorem d_S_polygon_45 : decode b_S_polygon 45 = .ok (.iload 7, 2) := by decide +kernel
theorem d_S_polygon_47 : decode b_S_polygon 47 = .ok (.bipush 32, 2) := by decide +kernel
theorem d_S_polygon_49 : decode b_S_polygon 49 = .ok (.if_icmp .ge 36, 3) := by decide +kernel
theorem d_S_polygon_52 : decode b_S_polygon 52 = .ok (.aload_n 0, 1) := by decide +kernel
theorem d_S_polygon_53 : decode b_S_polygon 53 = .ok (.iload_n 3, 1) := by decide +kernel
theorem d_S_polygon_54 : decode b_S_polygon 54 = .ok (.iload 7, 2) := by decide +kernel
theorem d_S_polygon_56 : decode b_S_polygon 56 = .ok (.iload 6, 2) := by decide +kernel
theorem d_S_polygon_58 : decode b_S_polygon 58 = .ok (.invokevirtual 128, 3) := by decide +kernel
theorem d_S_polygon_61 : decode b_S_polygon 61 = .ok (.ifCond .eq 18, 3) := by decide +kernel
theorem d_S_polygon_64 : decode b_S_polygon 64 = .ok (.aload 5, 2) := by decide +kernel
theorem d_S_polygon_66 : decode b_S_polygon 66 = .ok (.iload_n 2, 1) := by decide +kernel
theorem d_S_polygon_67 : decode b_S_polygon 67 = .ok (.iload 7, 2) := by decide +kernel
theorem d_S_polygon_69 : decode b_S_polygon 69 = .ok (.iload 6, 2) := by decide +kernel
theorem d_S_polygon_71 : decode b_S_polygon 71 = .ok (.invokestatic 117, 3) := by decide +kernel
theorem d_S_polygon_74 : decode b_S_polygon 74 = .ok (.iload 4, 2) := by decide +kernel
theorem d_S_polygon_76 : decode b_S_polygon 76 = .ok (.invokevirtual 121, 3) := by decide +kernel
theorem d_S_polygon_79 : decode b_S_polygon 79 = .ok (.iinc 7 1, 3) := by decide +kernel
theorem d_S_polygon_82 : decode b_S_polygon 82 = .ok (.goto (-37), 3) := by decide +kernel
theorem d_S_polygon_85 : decode b_S_polygon 85 = .ok (.iinc 6 1, 3) := by decide +kernel
theorem d_S_polygon_88 : decode b_S_polygon 88 = .ok (.goto (-53), 3) := by decide +kernel
theorem d_S_polygon_91 : decode b_S_polygon 91 = .ok (.return_, 1) := by decide +kernel
theorem d_S_isInside_0 : decode b_S_isInside 0 = .ok (.iconst 0, 1) := by decide +kernel
theorem d_S_isInside_1 : decode b_S_isInside 1 = .ok (.istore 4, 2) := by decide +kernel
theorem d_S_isInside_3 : decode b_S_isInside 3 = .ok (.iconst 0, 1) := by decide +kernel
theorem d_S_isInside_4 : decode b_S_isInside 4 = .ok (.istore 5, 2) := by decide +kernel
theorem d_S_isInside_6 : decode b_S_isInside 6 = .ok (.iload 5, 2) := by decide +kernel
theorem d_S_isInside_8 : decode b_S_isInside 8 = .ok (.iload_n 1, 1) := by decide +kernel
theorem d_S_isInside_9 : decode b_S_isInside 9 = .ok (.if_icmp .ge 46, 3) := by decide +kernel
theorem d_S_isInside_12 : decode b_S_isInside 12 = .ok (.aload_n 0, 1) := by decide +kernel
theorem d_S_isInside_13 : decode b_S_isInside 13 = .ok (.iload 5, 2) := by decide +kernel
theorem d_S_isInside_15 : decode b_S_isInside 15 = .ok (.iload 5, 2) := by decide +kernel
theorem d_S_isInside_17 : decode b_S_isInside 17 = .ok (.iconst 1, 1) := by decide +kernel
theorem d_S_isInside_18 : decode b_S_isInside 18 = .ok (.iadd, 1) := by decide +kernel
theorem d_S_isInside_19 : decode b_S_isInside 19 = .ok (.iload_n 1, 1) := by decide +kernel
theorem d_S_isInside_20 : decode b_S_isInside 20 = .ok (.irem, 1) := by decide +kernel
theorem d_S_isInside_21 : decode b_S_isInside 21 = .ok (.iconst 2, 1) := by decide +kernel
theorem d_S_isInside_22 : decode b_S_isInside 22 = .ok (.iload_n 2, 1) := by decide +kernel
theorem d_S_isInside_23 : decode b_S_isInside 23 = .ok (.imul, 1) := by decide +kernel
theorem d_S_isInside_24 : decode b_S_isInside 24 = .ok (.iconst 1, 1) := by decide +kernel
theorem d_S_isInside_25 : decode b_S_isInside 25 = .ok (.iadd, 1) := by decide +kernel
theorem d_S_isInside_26 : decode b_S_isInside 26 = .ok (.iconst 2, 1) := by decide +kernel
theorem d_S_isInside_27 : decode b_S_isInside 27 = .ok (.iload_n 3, 1) := by decide +kernel
theorem d_S_isInside_28 : decode b_S_isInside 28 = .ok (.imul, 1) := by decide +kernel
theorem d_S_isInside_29 : decode b_S_isInside 29 = .ok (.iconst 1, 1) := by decide +kernel
theorem d_S_isInside_30 : decode b_S_isInside 30 = .ok (.iadd, 1) := by decide +kernel
theorem d_S_isInside_31 : decode b_S_isInside 31 = .ok (.invokevirtual 293, 3) := by decide +kernel
theorem d_S_isInside_34 : decode b_S_isInside 34 = .ok (.ifCond .eq 15, 3) := by decide +kernel
theorem d_S_isInside_37 : decode b_S_isInside 37 = .ok (.iload 4, 2) := by decide +kernel
theorem d_S_isInside_39 : decode b_S_isInside 39 = .ok (.ifCond .ne 7, 3) := by decide +kernel
theorem d_S_isInside_42 : decode b_S_isInside 42 = .ok (.iconst 1, 1) := by decide +kernel
theorem d_S_isInside_43 : decode b_S_isInside 43 = .ok (.goto 4, 3) := by decide +kernel
theorem d_S_isInside_46 : decode b_S_isInside 46 = .ok (.iconst 0, 1) := by decide +kernel
theorem d_S_isInside_47 : decode b_S_isInside 47 = .ok (.istore 4, 2) := by decide +kernel
theorem d_S_isInside_49 : decode b_S_isInside 49 = .ok (.iinc 5 1, 3) := by decide +kernel
theorem d_S_isInside_52 : decode b_S_isInside 52 = .ok (.goto (-46), 3) := by decide +kernel
theorem d_S_isInside_55 : decode b_S_isInside 55 = .ok (.iload 4, 2) := by decide +kernel
theorem d_S_isInside_57 : decode b_S_isInside 57 = .ok (.ireturn, 1) := by decide +kernel
theorem d_S_isRightOf_0 : decode b_S_isRightOf 0 = .ok (.aload_n 0, 1) := by decide +kernel
theorem d_S_isRightOf_1 : decode b_S_isRightOf 1 = .ok (.getfield 28, 3) := by decide +kernel
theorem d_S_isRightOf_4 : decode b_S_isRightOf 4 = .ok (.iload_n 1, 1) := by decide +kernel
theorem d_S_isRightOf_5 : decode b_S_isRightOf 5 = .ok (.iaload, 1) := by decide +kernel
theorem d_S_isRightOf_6 : decode b_S_isRightOf 6 = .ok (.aload_n 0, 1) := by decide +kernel
theorem d_S_isRightOf_7 : decode b_S_isRightOf 7 = .ok (.getfield 28, 3) := by decide +kernel
theorem d_S_isRightOf_10 : decode b_S_isRightOf 10 = .ok (.iload_n 2, 1) := by decide +kernel
theorem d_S_isRightOf_11 : decode b_S_isRightOf 11 = .ok (.iaload, 1) := by decide +kernel
theorem d_S_isRightOf_12 : decode b_S_isRightOf 12 = .ok (.if_icmp .gt 7, 3) := by decide +kernel
theorem d_S_isRightOf_15 : decode b_S_isRightOf 15 = .ok (.iload_n 1, 1) := by decide +kernel
theorem d_S_isRightOf_16 : decode b_S_isRightOf 16 = .ok (.goto 4, 3) := by decide +kernel
theorem d_S_isRightOf_19 : decode b_S_isRightOf 19 = .ok (.iload_n 2, 1) := by decide +kernel
theorem d_S_isRightOf_20 : decode b_S_isRightOf 20 = .ok (.istore 5, 2) := by decide +kernel
theorem d_S_isRightOf_22 : decode b_S_isRightOf 22 = .ok (.iload_n 1, 1) := by decide +kernel
theorem d_S_isRightOf_23 : decode b_S_isRightOf 23 = .ok (.iload_n 2, 1) := by decide +kernel
theorem d_S_isRightOf_24 : decode b_S_isRightOf 24 = .ok (.iadd, 1) := by decide +kernel
theorem d_S_isRightOf_25 : decode b_S_isRightOf 25 = .ok (.iload 5, 2) := by decide +kernel
theorem d_S_isRightOf_27 : decode b_S_isRightOf 27 = .ok (.isub, 1) := by decide +kernel
theorem d_S_isRightOf_28 : decode b_S_isRightOf 28 = .ok (.istore 6, 2) := by decide +kernel
theorem d_S_isRightOf_30 : decode b_S_isRightOf 30 = .ok (.iconst 2, 1) := by decide +kernel
theorem d_S_isRightOf_31 : decode b_S_isRightOf 31 = .ok (.aload_n 0, 1) := by decide +kernel
theorem d_S_isRightOf_32 : decode b_S_isRightOf 32 = .ok (.getfield 28, 3) := by decide +kernel
theorem d_S_isRightOf_35 : decode b_S_isRightOf 35 = .ok (.iload 5, 2) := by decide +kernel
theorem d_S_isRightOf_37 : decode b_S_isRightOf 37 = .ok (.iaload, 1) := by decide +kernel
theorem d_S_isRightOf_38 : decode b_S_isRightOf 38 = .ok (.imul, 1) := by decide +kernel
theorem d_S_isRightOf_39 : decode b_S_isRightOf 39 = .ok (.istore 7, 2) := by decide +kernel
theorem d_S_isRightOf_41 : decode b_S_isRightOf 41 = .ok (.iconst 2, 1) := by decide +kernel
theorem d_S_isRightOf_42 : decode b_S_isRightOf 42 = .ok (.aload_n 0, 1) := by decide +kernel
theorem d_S_isRightOf_43 : decode b_S_isRightOf 43 = .ok (.getfield 28, 3) := by decide +kernel
theorem d_S_isRightOf_46 : decode b_S_isRightOf 46 = .ok (.iload 6, 2) := by decide +kernel
theorem d_S_isRightOf_48 : decode b_S_isRightOf 48 = .ok (.iaload, 1) := by decide +kernel
theorem d_S_isRightOf_49 : decode b_S_isRightOf 49 = .ok (.imul, 1) := by decide +kernel
theorem d_S_isRightOf_50 : decode b_S_isRightOf 50 = .ok (.istore 8, 2) := by decide +kernel
theorem d_S_isRightOf_52 : decode b_S_isRightOf 52 = .ok (.iload 4, 2) := by decide +kernel
theorem d_S_isRightOf_54 : decode b_S_isRightOf 54 = .ok (.iload 7, 2) := by decide +kernel
theorem d_S_isRightOf_56 : decode b_S_isRightOf 56 = .ok (.if_icmp .lt 10, 3) := by decide +kernel
theorem d_S_isRightOf_59 : decode b_S_isRightOf 59 = .ok (.iload 4, 2) := by decide +kernel
theorem d_S_isRightOf_61 : decode b_S_isRightOf 61 = .ok (.iload 8, 2) := by decide +kernel
theorem d_S_isRightOf_63 : decode b_S_isRightOf 63 = .ok (.if_icmp .lt 5, 3) := by decide +kernel
theorem d_S_isRightOf_66 : decode b_S_isRightOf 66 = .ok (.iconst 0, 1) := by decide +kernel
theorem d_S_isRightOf_67 : decode b_S_isRightOf 67 = .ok (.ireturn, 1) := by decide +kernel
theorem d_S_isRightOf_68 : decode b_S_isRightOf 68 = .ok (.iconst 2, 1) := by decide +kernel
theorem d_S_isRightOf_69 : decode b_S_isRightOf 69 = .ok (.aload_n 0, 1) := by decide +kernel
theorem d_S_isRightOf_70 : decode b_S_isRightOf 70 = .ok (.getfield 25, 3) := by decide +kernel
theorem d_S_isRightOf_73 : decode b_S_isRightOf 73 = .ok (.iload 5, 2) := by decide +kernel
theorem d_S_isRightOf_75 : decode b_S_isRightOf 75 = .ok (.iaload, 1) := by decide +kernel
theorem d_S_isRightOf_76 : decode b_S_isRightOf 76 = .ok (.imul, 1) := by decide +kernel
theorem d_S_isRightOf_77 : decode b_S_isRightOf 77 = .ok (.istore 9, 2) := by decide +kernel
theorem d_S_isRightOf_79 : decode b_S_isRightOf 79 = .ok (.iconst 2, 1) := by decide +kernel
theorem d_S_isRightOf_80 : decode b_S_isRightOf 80 = .ok (.aload_n 0, 1) := by decide +kernel
theorem d_S_isRightOf_81 : decode b_S_isRightOf 81 = .ok (.getfield 25, 3) := by decide +kernel
theorem d_S_isRightOf_84 : decode b_S_isRightOf 84 = .ok (.iload 6, 2) := by decide +kernel
theorem d_S_isRightOf_86 : decode b_S_isRightOf 86 = .ok (.iaload, 1) := by decide +kernel
theorem d_S_isRightOf_87 : decode b_S_isRightOf 87 = .ok (.imul, 1) := by decide +kernel
theorem d_S_isRightOf_88 : decode b_S_isRightOf 88 = .ok (.istore 10, 2) := by decide +kernel
theorem d_S_isRightOf_90 : decode b_S_isRightOf 90 = .ok (.iload 4, 2) := by decide +kernel
theorem d_S_isRightOf_92 : decode b_S_isRightOf 92 = .ok (.iload 7, 2) := by decide +kernel
theorem d_S_isRightOf_94 : decode b_S_isRightOf 94 = .ok (.isub, 1) := by decide +kernel
theorem d_S_isRightOf_95 : decode b_S_isRightOf 95 = .ok (.iload 10, 2) := by decide +kernel
theorem d_S_isRightOf_97 : decode b_S_isRightOf 97 = .ok (.iload 9, 2) := by decide +kernel
theorem d_S_isRightOf_99 : decode b_S_isRightOf 99 = .ok (.isub, 1) := by decide +kernel
theorem d_S_isRightOf_100 : decode b_S_isRightOf 100 = .ok (.imul, 1) := by decide +kernel
theorem d_S_isRightOf_101 : decode b_S_isRightOf 101 = .ok (.iload_n 3, 1) := by decide +kernel
theorem d_S_isRightOf_102 : decode b_S_isRightOf 102 = .ok (.iload 9, 2) := by decide +kernel
theorem d_S_isRightOf_104 : decode b_S_isRightOf 104 = .ok (.isub, 1) := by decide +kernel
theorem d_S_isRightOf_105 : decode b_S_isRightOf 105 = .ok (.iload 8, 2) := by decide +kernel
theorem d_S_isRightOf_107 : decode b_S_isRightOf 107 = .ok (.iload 7, 2) := by decide +kernel
theorem d_S_isRightOf_109 : decode b_S_isRightOf 109 = .ok (.isub, 1) := by decide +kernel
theorem d_S_isRightOf_110 : decode b_S_isRightOf 110 = .ok (.imul, 1) := by decide +kernel
theorem d_S_isRightOf_111 : decode b_S_isRightOf 111 = .ok (.if_icmp .le 7, 3) := by decide +kernel
theorem d_S_isRightOf_114 : decode b_S_isRightOf 114 = .ok (.iconst 1, 1) := by decide +kernel
theorem d_S_isRightOf_115 : decode b_S_isRightOf 115 = .ok (.goto 4, 3) := by decide +kernel
theorem d_S_isRightOf_118 : decode b_S_isRightOf 118 = .ok (.iconst 0, 1) := by decide +kernel
theorem d_S_isRightOf_119 : decode b_S_isRightOf 119 = .ok (.ireturn, 1) := by decide +kernel
theorem d_S_copy_0 : decode b_S_copy 0 = .ok (.aload_n 0, 1) := by decide +kernel
theorem d_S_copy_1 : decode b_S_copy 1 = .ok (.iload_n 1, 1) := by decide +kernel
theorem d_S_copy_2 : decode b_S_copy 2 = .ok (.iload_n 2, 1) := by decide +kernel
theorem d_S_copy_3 : decode b_S_copy 3 = .ok (.invokevirtual 109, 3) := by decide +kernel
theorem d_S_copy_6 : decode b_S_copy 6 = .ok (.astore 7, 2) := by decide +kernel
theorem d_S_copy_8 : decode b_S_copy 8 = .ok (.aload_n 0, 1) := by decide +kernel
theorem d_S_copy_9 : decode b_S_copy 9 = .ok (.iload_n 3, 1) := by decide +kernel
theorem d_S_copy_10 : decode b_S_copy 10 = .ok (.invokevirtual 77, 3) := by decide +kernel
theorem d_S_copy_13 : decode b_S_copy 13 = .ok (.astore 8, 2) := by decide +kernel
theorem d_S_copy_15 : decode b_S_copy 15 = .ok (.aload 8, 2) := by decide +kernel
theorem d_S_copy_17 : decode b_S_copy 17 = .ok (.ifnull 35, 3) := by decide +kernel
theorem d_S_copy_20 : decode b_S_copy 20 = .ok (.iload 4, 2) := by decide +kernel
theorem d_S_copy_22 : decode b_S_copy 22 = .ok (.invokestatic 73, 3) := by decide +kernel
theorem d_S_copy_25 : decode b_S_copy 25 = .ok (.ifCond .eq 27, 3) := by decide +kernel
theorem d_S_copy_28 : decode b_S_copy 28 = .ok (.iload 5, 2) := by decide +kernel
theorem d_S_copy_30 : decode b_S_copy 30 = .ok (.aload_n 0, 1) := by decide +kernel
theorem d_S_copy_31 : decode b_S_copy 31 = .ok (.getfield 63, 3) := by decide +kernel
theorem d_S_copy_34 : decode b_S_copy 34 = .ok (.invokestatic 99, 3) := by decide +kernel
theorem d_S_copy_37 : decode b_S_copy 37 = .ok (.ifCond .eq 15, 3) := by decide +kernel
theorem d_S_copy_40 : decode b_S_copy 40 = .ok (.iload 6, 2) := by decide +kernel
theorem d_S_copy_42 : decode b_S_copy 42 = .ok (.aload_n 0, 1) := by decide +kernel
theorem d_S_copy_43 : decode b_S_copy 43 = .ok (.getfield 66, 3) := by decide +kernel
theorem d_S_copy_46 : decode b_S_copy 46 = .ok (.invokestatic 99, 3) := by decide +kernel
theorem d_S_copy_49 : decode b_S_copy 49 = .ok (.ifCond .ne 11, 3) := by decide +kernel
theorem d_S_copy_52 : decode b_S_copy 52 = .ok (.new 81, 3) := by decide +kernel
theorem d_S_copy_55 : decode b_S_copy 55 = .ok (.dup, 1) := by decide +kernel
theorem d_S_copy_56 : decode b_S_copy 56 = .ok (.invokespecial 83, 3) := by decide +kernel
theorem d_S_copy_59 : decode b_S_copy 59 = .ok (.athrow, 1) := by decide +kernel
theorem d_S_copy_60 : decode b_S_copy 60 = .ok (.iconst 0, 1) := by decide +kernel
theorem d_S_copy_61 : decode b_S_copy 61 = .ok (.istore 9, 2) := by decide +kernel
theorem d_S_copy_63 : decode b_S_copy 63 = .ok (.iload 9, 2) := by decide +kernel
theorem d_S_copy_65 : decode b_S_copy 65 = .ok (.aload_n 0, 1) := by decide +kernel
theorem d_S_copy_66 : decode b_S_copy 66 = .ok (.getfield 66, 3) := by decide +kernel
theorem d_S_copy_69 : decode b_S_copy 69 = .ok (.if_icmp .ge 57, 3) := by decide +kernel
theorem d_S_copy_72 : decode b_S_copy 72 = .ok (.iload 4, 2) := by decide +kernel
theorem d_S_copy_74 : decode b_S_copy 74 = .ok (.aload_n 0, 1) := by decide +kernel
theorem d_S_copy_75 : decode b_S_copy 75 = .ok (.getfield 103, 3) := by decide +kernel
theorem d_S_copy_78 : decode b_S_copy 78 = .ok (.aload_n 0, 1) := by decide +kernel
theorem d_S_copy_79 : decode b_S_copy 79 = .ok (.getfield 106, 3) := by decide +kernel
theorem d_S_copy_82 : decode b_S_copy 82 = .ok (.iload 9, 2) := by decide +kernel
theorem d_S_copy_84 : decode b_S_copy 84 = .ok (.iadd, 1) := by decide +kernel
theorem d_S_copy_85 : decode b_S_copy 85 = .ok (.invokestatic 117, 3) := by decide +kernel
theorem d_S_copy_88 : decode b_S_copy 88 = .ok (.istore 10, 2) := by decide +kernel
theorem d_S_copy_90 : decode b_S_copy 90 = .ok (.aload 8, 2) := by decide +kernel
theorem d_S_copy_92 : decode b_S_copy 92 = .ok (.getfield 91, 3) := by decide +kernel
theorem d_S_copy_95 : decode b_S_copy 95 = .ok (.iload 10, 2) := by decide +kernel
theorem d_S_copy_97 : decode b_S_copy 97 = .ok (.aload 7, 2) := by decide +kernel
theorem d_S_copy_99 : decode b_S_copy 99 = .ok (.getfield 132, 3) := by decide +kernel
theorem d_S_copy_102 : decode b_S_copy 102 = .ok (.iload_n 2, 1) := by decide +kernel
theorem d_S_copy_103 : decode b_S_copy 103 = .ok (.iload 5, 2) := by decide +kernel
theorem d_S_copy_105 : decode b_S_copy 105 = .ok (.iload 6, 2) := by decide +kernel
theorem d_S_copy_107 : decode b_S_copy 107 = .ok (.iload 9, 2) := by decide +kernel
theorem d_S_copy_109 : decode b_S_copy 109 = .ok (.iadd, 1) := by decide +kernel
theorem d_S_copy_110 : decode b_S_copy 110 = .ok (.invokestatic 117, 3) := by decide +kernel
theorem d_S_copy_113 : decode b_S_copy 113 = .ok (.aload_n 0, 1) := by decide +kernel
theorem d_S_copy_114 : decode b_S_copy 114 = .ok (.getfield 63, 3) := by decide +kernel
theorem d_S_copy_117 : decode b_S_copy 117 = .ok (.invokestatic 133, 3) := by decide +kernel
theorem d_S_copy_120 : decode b_S_copy 120 = .ok (.iinc 9 1, 3) := by decide +kernel
theorem d_S_copy_123 : decode b_S_copy 123 = .ok (.goto (-60), 3) := by decide +kernel
theorem d_S_copy_126 : decode b_S_copy 126 = .ok (.return_, 1) := by decide +kernel
theorem d_S_map_0 : decode b_S_map 0 = .ok (.aload_n 0, 1) := by decide +kernel
theorem d_S_map_1 : decode b_S_map 1 = .ok (.iload_n 1, 1) := by decide +kernel
theorem d_S_map_2 : decode b_S_map 2 = .ok (.iload_n 2, 1) := by decide +kernel
theorem d_S_map_3 : decode b_S_map 3 = .ok (.invokevirtual 109, 3) := by decide +kernel
theorem d_S_map_6 : decode b_S_map 6 = .ok (.astore_n 3, 1) := by decide +kernel
theorem d_S_map_7 : decode b_S_map 7 = .ok (.aload_n 0, 1) := by decide +kernel
theorem d_S_map_8 : decode b_S_map 8 = .ok (.getfield 106, 3) := by decide +kernel
theorem d_S_map_11 : decode b_S_map 11 = .ok (.istore 4, 2) := by decide +kernel
theorem d_S_map_13 : decode b_S_map 13 = .ok (.iload 4, 2) := by decide +kernel
theorem d_S_map_15 : decode b_S_map 15 = .ok (.aload_n 0, 1) := by decide +kernel
theorem d_S_map_16 : decode b_S_map 16 = .ok (.getfield 106, 3) := by decide +kernel
theorem d_S_map_19 : decode b_S_map 19 = .ok (.aload_n 0, 1) := by decide +kernel
theorem d_S_map_20 : decode b_S_map 20 = .ok (.getfield 66, 3) := by decide +kernel
theorem d_S_map_23 : decode b_S_map 23 = .ok (.iadd, 1) := by decide +kernel
theorem d_S_map_24 : decode b_S_map 24 = .ok (.if_icmp .ge 69, 3) := by decide +kernel
theorem d_S_map_27 : decode b_S_map 27 = .ok (.aload_n 0, 1) := by decide +kernel
theorem d_S_map_28 : decode b_S_map 28 = .ok (.getfield 103, 3) := by decide +kernel
theorem d_S_map_31 : decode b_S_map 31 = .ok (.istore 5, 2) := by decide +kernel
theorem d_S_map_33 : decode b_S_map 33 = .ok (.iload 5, 2) := by decide +kernel
theorem d_S_map_35 : decode b_S_map 35 = .ok (.aload_n 0, 1) := by decide +kernel
theorem d_S_map_36 : decode b_S_map 36 = .ok (.getfield 103, 3) := by decide +kernel
theorem d_S_map_39 : decode b_S_map 39 = .ok (.aload_n 0, 1) := by decide +kernel
theorem d_S_map_40 : decode b_S_map 40 = .ok (.getfield 63, 3) := by decide +kernel
theorem d_S_map_43 : decode b_S_map 43 = .ok (.iadd, 1) := by decide +kernel
theorem d_S_map_44 : decode b_S_map 44 = .ok (.if_icmp .ge 43, 3) := by decide +kernel
theorem d_S_map_47 : decode b_S_map 47 = .ok (.iload_n 2, 1) := by decide +kernel
theorem d_S_map_48 : decode b_S_map 48 = .ok (.iload 5, 2) := by decide +kernel
theorem d_S_map_50 : decode b_S_map 50 = .ok (.iload 4, 2) := by decide +kernel
theorem d_S_map_52 : decode b_S_map 52 = .ok (.invokestatic 117, 3) := by decide +kernel
theorem d_S_map_55 : decode b_S_map 55 = .ok (.istore 6, 2) := by decide +kernel
theorem d_S_map_57 : decode b_S_map 57 = .ok (.aload_n 3, 1) := by decide +kernel
theorem d_S_map_58 : decode b_S_map 58 = .ok (.getfield 132, 3) := by decide +kernel
theorem d_S_map_61 : decode b_S_map 61 = .ok (.iload 6, 2) := by decide +kernel
theorem d_S_map_63 : decode b_S_map 63 = .ok (.laload, 1) := by decide +kernel
theorem d_S_map_64 : decode b_S_map 64 = .ok (.invokestatic 142, 3) := by decide +kernel
theorem d_S_map_67 : decode b_S_map 67 = .ok (.istore 7, 2) := by decide +kernel
theorem d_S_map_69 : decode b_S_map 69 = .ok (.aload_n 3, 1) := by decide +kernel
theorem d_S_map_70 : decode b_S_map 70 = .ok (.iload 6, 2) := by decide +kernel
theorem d_S_map_72 : decode b_S_map 72 = .ok (.aload_n 0, 1) := by decide +kernel
theorem d_S_map_73 : decode b_S_map 73 = .ok (.iload 7, 2) := by decide +kernel
theorem d_S_map_75 : decode b_S_map 75 = .ok (.invokevirtual 146, 3) := by decide +kernel
theorem d_S_map_78 : decode b_S_map 78 = .ok (.invokestatic 150, 3) := by decide +kernel
theorem d_S_map_81 : decode b_S_map 81 = .ok (.iinc 5 1, 3) := by decide +kernel
theorem d_S_map_84 : decode b_S_map 84 = .ok (.goto (-51), 3) := by decide +kernel
theorem d_S_map_87 : decode b_S_map 87 = .ok (.iinc 4 1, 3) := by decide +kernel
theorem d_S_map_90 : decode b_S_map 90 = .ok (.goto (-77), 3) := by decide +kernel
theorem d_S_map_93 : decode b_S_map 93 = .ok (.return_, 1) := by decide +kernel
theorem d_S_mapped_0 : decode b_S_mapped 0 = .ok (.iconst 0, 1) := by decide +kernel
theorem d_S_mapped_1 : decode b_S_mapped 1 = .ok (.istore_n 2, 1) := by decide +kernel
theorem d_S_mapped_2 : decode b_S_mapped 2 = .ok (.iload_n 2, 1) := by decide +kernel
theorem d_S_mapped_3 : decode b_S_mapped 3 = .ok (.bipush 8, 2) := by decide +kernel
theorem d_S_mapped_5 : decode b_S_mapped 5 = .ok (.if_icmp .ge 26, 3) := by decide +kernel
theorem d_S_mapped_8 : decode b_S_mapped 8 = .ok (.aload_n 0, 1) := by decide +kernel
theorem d_S_mapped_9 : decode b_S_mapped 9 = .ok (.getfield 31, 3) := by decide +kernel
theorem d_S_mapped_12 : decode b_S_mapped 12 = .ok (.iload_n 2, 1) := by decide +kernel
theorem d_S_mapped_13 : decode b_S_mapped 13 = .ok (.iaload, 1) := by decide +kernel
theorem d_S_mapped_14 : decode b_S_mapped 14 = .ok (.iload_n 1, 1) := by decide +kernel
theorem d_S_mapped_15 : decode b_S_mapped 15 = .ok (.if_icmp .ne 10, 3) := by decide +kernel
theorem d_S_mapped_18 : decode b_S_mapped 18 = .ok (.aload_n 0, 1) := by decide +kernel
theorem d_S_mapped_19 : decode b_S_mapped 19 = .ok (.getfield 34, 3) := by decide +kernel
theorem d_S_mapped_22 : decode b_S_mapped 22 = .ok (.iload_n 2, 1) := by decide +kernel
theorem d_S_mapped_23 : decode b_S_mapped 23 = .ok (.iaload, 1) := by decide +kernel
theorem d_S_mapped_24 : decode b_S_mapped 24 = .ok (.ireturn, 1) := by decide +kernel
theorem d_S_mapped_25 : decode b_S_mapped 25 = .ok (.iinc 2 1, 3) := by decide +kernel
theorem d_S_mapped_28 : decode b_S_mapped 28 = .ok (.goto (-26), 3) := by decide +kernel
theorem d_S_mapped_31 : decode b_S_mapped 31 = .ok (.iload_n 1, 1) := by decide +kernel
theorem d_S_mapped_32 : decode b_S_mapped 32 = .ok (.ireturn, 1) := by decide +kernel
theorem d_S_setIfOther_0 : decode b_S_setIfOther 0 = .ok (.aload_n 0, 1) := by decide +kernel
theorem d_S_setIfOther_1 : decode b_S_setIfOther 1 = .ok (.getfield 132, 3) := by decide +kernel
theorem d_S_setIfOther_4 : decode b_S_setIfOther 4 = .ok (.iload_n 1, 1) := by decide +kernel
theorem d_S_setIfOther_5 : decode b_S_setIfOther 5 = .ok (.laload, 1) := by decide +kernel
theorem d_S_setIfOther_6 : decode b_S_setIfOther 6 = .ok (.invokestatic 142, 3) := by decide +kernel
theorem d_S_setIfOther_9 : decode b_S_setIfOther 9 = .ok (.iload_n 2, 1) := by decide +kernel
theorem d_S_setIfOther_10 : decode b_S_setIfOther 10 = .ok (.if_icmp .eq 9, 3) := by decide +kernel
theorem d_S_setIfOther_13 : decode b_S_setIfOther 13 = .ok (.aload_n 0, 1) := by decide +kernel
theorem d_S_setIfOther_14 : decode b_S_setIfOther 14 = .ok (.iload_n 1, 1) := by decide +kernel
theorem d_S_setIfOther_15 : decode b_S_setIfOther 15 = .ok (.iload_n 2, 1) := by decide +kernel
theorem d_S_setIfOther_16 : decode b_S_setIfOther 16 = .ok (.invokevirtual 121, 3) := by decide +kernel
theorem d_S_setIfOther_19 : decode b_S_setIfOther 19 = .ok (.return_, 1) := by decide +kernel
theorem d_S_combine_0 : decode b_S_combine 0 = .ok (.aload_n 0, 1) := by decide +kernel
theorem d_S_combine_1 : decode b_S_combine 1 = .ok (.iload_n 1, 1) := by decide +kernel
theorem d_S_combine_2 : decode b_S_combine 2 = .ok (.iload_n 2, 1) := by decide +kernel
theorem d_S_combine_3 : decode b_S_combine 3 = .ok (.invokevirtual 109, 3) := by decide +kernel
theorem d_S_combine_6 : decode b_S_combine 6 = .ok (.astore 5, 2) := by decide +kernel
theorem d_S_combine_8 : decode b_S_combine 8 = .ok (.iload_n 3, 1) := by decide +kernel
theorem d_S_combine_9 : decode b_S_combine 9 = .ok (.invokestatic 73, 3) := by decide +kernel
theorem d_S_combine_12 : decode b_S_combine 12 = .ok (.ifCond .eq 14, 3) := by decide +kernel
theorem d_S_combine_15 : decode b_S_combine 15 = .ok (.iload 4, 2) := by decide +kernel
theorem d_S_combine_17 : decode b_S_combine 17 = .ok (.ifCond .lt 9, 3) := by decide +kernel
theorem d_S_combine_20 : decode b_S_combine 20 = .ok (.iload 4, 2) := by decide +kernel
theorem d_S_combine_22 : decode b_S_combine 22 = .ok (.iconst 3, 1) := by decide +kernel
theorem d_S_combine_23 : decode b_S_combine 23 = .ok (.if_icmp .lt 11, 3) := by decide +kernel
theorem d_S_combine_26 : decode b_S_combine 26 = .ok (.new 81, 3) := by decide +kernel
theorem d_S_combine_29 : decode b_S_combine 29 = .ok (.dup, 1) := by decide +kernel
theorem d_S_combine_30 : decode b_S_combine 30 = .ok (.invokespecial 83, 3) := by decide +kernel
theorem d_S_combine_33 : decode b_S_combine 33 = .ok (.athrow, 1) := by decide +kernel
theorem d_S_combine_34 : decode b_S_combine 34 = .ok (.aload_n 0, 1) := by decide +kernel
theorem d_S_combine_35 : decode b_S_combine 35 = .ok (.getfield 106, 3) := by decide +kernel
theorem d_S_combine_38 : decode b_S_combine 38 = .ok (.istore 6, 2) := by decide +kernel
theorem d_S_combine_40 : decode b_S_combine 40 = .ok (.iload 6, 2) := by decide +kernel
theorem d_S_combine_42 : decode b_S_combine 42 = .ok (.aload_n 0, 1) := by decide +kernel
theorem d_S_combine_43 : decode b_S_combine 43 = .ok (.getfield 106, 3) := by decide +kernel
theorem d_S_combine_46 : decode b_S_combine 46 = .ok (.aload_n 0, 1) := by decide +kernel
theorem d_S_combine_47 : decode b_S_combine 47 = .ok (.getfield 66, 3) := by decide +kernel
theorem d_S_combine_50 : decode b_S_combine 50 = .ok (.iadd, 1) := by decide +kernel
theorem d_S_combine_51 : decode b_S_combine 51 = .ok (.if_icmp .ge 93, 3) := by decide +kernel
theorem d_S_combine_54 : decode b_S_combine 54 = .ok (.aload_n 0, 1) := by decide +kernel
theorem d_S_combine_55 : decode b_S_combine 55 = .ok (.getfield 103, 3) := by decide +kernel
theorem d_S_combine_58 : decode b_S_combine 58 = .ok (.istore 7, 2) := by decide +kernel
theorem d_S_combine_60 : decode b_S_combine 60 = .ok (.iload 7, 2) := by decide +kernel
theorem d_S_combine_62 : decode b_S_combine 62 = .ok (.aload_n 0, 1) := by decide +kernel
theorem d_S_combine_63 : decode b_S_combine 63 = .ok (.getfield 103, 3) := by decide +kernel
theorem d_S_combine_66 : decode b_S_combine 66 = .ok (.aload_n 0, 1) := by decide +kernel
theorem d_S_combine_67 : decode b_S_combine 67 = .ok (.getfield 63, 3) := by decide +kernel
theorem d_S_combine_70 : decode b_S_combine 70 = .ok (.iadd, 1) := by decide +kernel
theorem d_S_combine_71 : decode b_S_combine 71 = .ok (.if_icmp .ge 67, 3) := by decide +kernel
theorem d_S_combine_74 : decode b_S_combine 74 = .ok (.iload_n 2, 1) := by decide +kernel
theorem d_S_combine_75 : decode b_S_combine 75 = .ok (.iload 7, 2) := by decide +kernel
theorem d_S_combine_77 : decode b_S_combine 77 = .ok (.iload 6, 2) := by decide +kernel
theorem d_S_combine_79 : decode b_S_combine 79 = .ok (.invokestatic 117, 3) := by decide +kernel
theorem d_S_combine_82 : decode b_S_combine 82 = .ok (.istore 8, 2) := by decide +kernel
theorem d_S_combine_84 : decode b_S_combine 84 = .ok (.aload 5, 2) := by decide +kernel
theorem d_S_combine_86 : decode b_S_combine 86 = .ok (.getfield 132, 3) := by decide +kernel
theorem d_S_combine_89 : decode b_S_combine 89 = .ok (.iload 8, 2) := by decide +kernel
theorem d_S_combine_91 : decode b_S_combine 91 = .ok (.laload, 1) := by decide +kernel
theorem d_S_combine_92 : decode b_S_combine 92 = .ok (.invokestatic 142, 3) := by decide +kernel
theorem d_S_combine_95 : decode b_S_combine 95 = .ok (.istore 9, 2) := by decide +kernel
theorem d_S_combine_97 : decode b_S_combine 97 = .ok (.aload 5, 2) := by decide +kernel
theorem d_S_combine_99 : decode b_S_combine 99 = .ok (.getfield 132, 3) := by decide +kernel
theorem d_S_combine_102 : decode b_S_combine 102 = .ok (.iload_n 3, 1) := by decide +kernel
theorem d_S_combine_103 : decode b_S_combine 103 = .ok (.iload 7, 2) := by decide +kernel
theorem d_S_combine_105 : decode b_S_combine 105 = .ok (.iload 6, 2) := by decide +kernel
theorem d_S_combine_107 : decode b_S_combine 107 = .ok (.invokestatic 117, 3) := by decide +kernel
theorem d_S_combine_110 : decode b_S_combine 110 = .ok (.laload, 1) := by decide +kernel
theorem d_S_combine_111 : decode b_S_combine 111 = .ok (.invokestatic 142, 3) := by decide +kernel
theorem d_S_combine_114 : decode b_S_combine 114 = .ok (.istore 10, 2) := by decide +kernel
theorem d_S_combine_116 : decode b_S_combine 116 = .ok (.aload 5, 2) := by decide +kernel
theorem d_S_combine_118 : decode b_S_combine 118 = .ok (.iload 8, 2) := by decide +kernel
theorem d_S_combine_120 : decode b_S_combine 120 = .ok (.iload 9, 2) := by decide +kernel
theorem d_S_combine_122 : decode b_S_combine 122 = .ok (.iload 10, 2) := by decide +kernel
theorem d_S_combine_124 : decode b_S_combine 124 = .ok (.iload 4, 2) := by decide +kernel
theorem d_S_combine_126 : decode b_S_combine 126 = .ok (.invokestatic 154, 3) := by decide +kernel
theorem d_S_combine_129 : decode b_S_combine 129 = .ok (.invokestatic 150, 3) := by decide +kernel
theorem d_S_combine_132 : decode b_S_combine 132 = .ok (.iinc 7 1, 3) := by decide +kernel
theorem d_S_combine_135 : decode b_S_combine 135 = .ok (.goto (-75), 3) := by decide +kernel
theorem d_S_combine_138 : decode b_S_combine 138 = .ok (.iinc 6 1, 3) := by decide +kernel
theorem d_S_combine_141 : decode b_S_combine 141 = .ok (.goto (-101), 3) := by decide +kernel
theorem d_S_combine_144 : decode b_S_combine 144 = .ok (.return_, 1) := by decide +kernel
theorem d_S_combined_0 : decode b_S_combined 0 = .ok (.iload_n 1, 1) := by decide +kernel
theorem d_S_combined_1 : decode b_S_combined 1 = .ok (.ldc 69, 2) := by decide +kernel
theorem d_S_combined_3 : decode b_S_combined 3 = .ok (.if_icmp .ne 5, 3) := by decide +kernel
theorem d_S_combined_6 : decode b_S_combined 6 = .ok (.iload_n 0, 1) := by decide +kernel
theorem d_S_combined_7 : decode b_S_combined 7 = .ok (.ireturn, 1) := by decide +kernel
theorem d_S_combined_8 : decode b_S_combined 8 = .ok (.iload_n 0, 1) := by decide +kernel
theorem d_S_combined_9 : decode b_S_combined 9 = .ok (.ldc 69, 2) := by decide +kernel
theorem d_S_combined_11 : decode b_S_combined 11 = .ok (.if_icmp .ne 5, 3) := by decide +kernel
theorem d_S_combined_14 : decode b_S_combined 14 = .ok (.iload_n 1, 1) := by decide +kernel
theorem d_S_combined_15 : decode b_S_combined 15 = .ok (.ireturn, 1) := by decide +kernel
theorem d_S_combined_16 : decode b_S_combined 16 = .ok (.iload_n 2, 1) := by decide +kernel
theorem d_S_combined_17 : decode b_S_combined 17 = .ok (.lookupswitch 49 #[(0, 27), (1, 43)], 27) := by decide +kernel
theorem d_S_combined_44 : decode b_S_combined 44 = .ok (.ldc_w 288, 3) := by decide +kernel
theorem d_S_combined_47 : decode b_S_combined 47 = .ok (.ldc_w 289, 3) := by decide +kernel
theorem d_S_combined_50 : decode b_S_combined 50 = .ok (.iload_n 0, 1) := by decide +kernel
theorem d_S_combined_51 : decode b_S_combined 51 = .ok (.iload_n 1, 1) := by decide +kernel
theorem d_S_combined_52 : decode b_S_combined 52 = .ok (.iadd, 1) := by decide +kernel
theorem d_S_combined_53 : decode b_S_combined 53 = .ok (.invokestatic 252, 3) := by decide +kernel
theorem d_S_combined_56 : decode b_S_combined 56 = .ok (.invokestatic 257, 3) := by decide +kernel
theorem d_S_combined_59 : decode b_S_combined 59 = .ok (.ireturn, 1) := by decide +kernel
theorem d_S_combined_60 : decode b_S_combined 60 = .ok (.iload_n 0, 1) := by decide +kernel
theorem d_S_combined_61 : decode b_S_combined 61 = .ok (.iload_n 1, 1) := by decide +kernel
theorem d_S_combined_62 : decode b_S_combined 62 = .ok (.invokestatic 257, 3) := by decide +kernel
theorem d_S_combined_65 : decode b_S_combined 65 = .ok (.ireturn, 1) := by decide +kernel
theorem d_S_combined_66 : decode b_S_combined 66 = .ok (.iload_n 0, 1) := by decide +kernel
theorem d_S_combined_67 : decode b_S_combined 67 = .ok (.iload_n 1, 1) := by decide +kernel
theorem d_S_combined_68 : decode b_S_combined 68 = .ok (.invokestatic 252, 3) := by decide +kernel
theorem d_S_combined_71 : decode b_S_combined 71 = .ok (.ireturn, 1) := by decide +kernel
theorem d_S_commit_0 : decode b_S_commit 0 = .ok (.aload_n 0, 1) := by decide +kernel
theorem d_S_commit_1 : decode b_S_commit 1 = .ok (.iload_n 1, 1) := by decide +kernel
theorem d_S_commit_2 : decode b_S_commit 2 = .ok (.invokevirtual 84, 3) := by decide +kernel
theorem d_S_commit_5 : decode b_S_commit 5 = .ok (.astore_n 2, 1) := by decide +kernel
theorem d_S_commit_6 : decode b_S_commit 6 = .ok (.aload_n 2, 1) := by decide +kernel
theorem d_S_commit_7 : decode b_S_commit 7 = .ok (.ifnonnull 11, 3) := by decide +kernel
theorem d_S_commit_10 : decode b_S_commit 10 = .ok (.new 81, 3) := by decide +kernel
theorem d_S_commit_13 : decode b_S_commit 13 = .ok (.dup, 1) := by decide +kernel
theorem d_S_commit_14 : decode b_S_commit 14 = .ok (.invokespecial 83, 3) := by decide +kernel
theorem d_S_commit_17 : decode b_S_commit 17 = .ok (.athrow, 1) := by decide +kernel
theorem d_S_commit_18 : decode b_S_commit 18 = .ok (.aload_n 0, 1) := by decide +kernel
theorem d_S_commit_19 : decode b_S_commit 19 = .ok (.aload_n 2, 1) := by decide +kernel
theorem d_S_commit_20 : decode b_S_commit 20 = .ok (.invokevirtual 157, 3) := by decide +kernel
theorem d_S_commit_23 : decode b_S_commit 23 = .ok (.ifCond .eq 19, 3) := by decide +kernel
theorem d_S_commit_26 : decode b_S_commit 26 = .ok (.aload_n 2, 1) := by decide +kernel
theorem d_S_commit_27 : decode b_S_commit 27 = .ok (.invokevirtual 161, 3) := by decide +kernel
theorem d_S_commit_30 : decode b_S_commit 30 = .ok (.ifCond .ne 12, 3) := by decide +kernel
theorem d_S_commit_33 : decode b_S_commit 33 = .ok (.aload_n 0, 1) := by decide +kernel
theorem d_S_commit_34 : decode b_S_commit 34 = .ok (.getfield 54, 3) := by decide +kernel
theorem d_S_commit_37 : decode b_S_commit 37 = .ok (.bipush 24, 2) := by decide +kernel
theorem d_S_commit_39 : decode b_S_commit 39 = .ok (.if_icmp .lt 11, 3) := by decide +kernel
theorem d_S_commit_42 : decode b_S_commit 42 = .ok (.new 88, 3) := by decide +kernel
theorem d_S_commit_45 : decode b_S_commit 45 = .ok (.dup, 1) := by decide +kernel
theorem d_S_commit_46 : decode b_S_commit 46 = .ok (.invokespecial 90, 3) := by decide +kernel
theorem d_S_commit_49 : decode b_S_commit 49 = .ok (.athrow, 1) := by decide +kernel
theorem d_S_commit_50 : decode b_S_commit 50 = .ok (.aload_n 0, 1) := by decide +kernel
theorem d_S_commit_51 : decode b_S_commit 51 = .ok (.getfield 54, 3) := by decide +kernel
theorem d_S_commit_54 : decode b_S_commit 54 = .ok (.istore_n 3, 1) := by decide +kernel
theorem d_S_commit_55 : decode b_S_commit 55 = .ok (.aload_n 2, 1) := by decide +kernel
theorem d_S_commit_56 : decode b_S_commit 56 = .ok (.getfield 132, 3) := by decide +kernel
theorem d_S_commit_59 : decode b_S_commit 59 = .ok (.iload_n 3, 1) := by decide +kernel
theorem d_S_commit_60 : decode b_S_commit 60 = .ok (.invokestatic 165, 3) := by decide +kernel
theorem d_S_commit_63 : decode b_S_commit 63 = .ok (.iconst 1, 1) := by decide +kernel
theorem d_S_commit_64 : decode b_S_commit 64 = .ok (.iload_n 3, 1) := by decide +kernel
theorem d_S_commit_65 : decode b_S_commit 65 = .ok (.ishl, 1) := by decide +kernel
theorem d_S_commit_66 : decode b_S_commit 66 = .ok (.aload_n 0, 1) := by decide +kernel
theorem d_S_commit_67 : decode b_S_commit 67 = .ok (.aload_n 2, 1) := by decide +kernel
theorem d_S_commit_68 : decode b_S_commit 68 = .ok (.getfield 169, 3) := by decide +kernel
theorem d_S_commit_71 : decode b_S_commit 71 = .ok (.invokevirtual 172, 3) := by decide +kernel
theorem d_S_commit_74 : decode b_S_commit 74 = .ok (.ior, 1) := by decide +kernel
theorem d_S_commit_75 : decode b_S_commit 75 = .ok (.aload_n 0, 1) := by decide +kernel
theorem d_S_commit_76 : decode b_S_commit 76 = .ok (.aload_n 2, 1) := by decide +kernel
theorem d_S_commit_77 : decode b_S_commit 77 = .ok (.getfield 175, 3) := by decide +kernel
theorem d_S_commit_80 : decode b_S_commit 80 = .ok (.invokevirtual 172, 3) := by decide +kernel
theorem d_S_commit_83 : decode b_S_commit 83 = .ok (.ior, 1) := by decide +kernel
theorem d_S_commit_84 : decode b_S_commit 84 = .ok (.istore 4, 2) := by decide +kernel
theorem d_S_commit_86 : decode b_S_commit 86 = .ok (.aload_n 0, 1) := by decide +kernel
theorem d_S_commit_87 : decode b_S_commit 87 = .ok (.getfield 15, 3) := by decide +kernel
theorem d_S_commit_90 : decode b_S_commit 90 = .ok (.iload_n 3, 1) := by decide +kernel
theorem d_S_commit_91 : decode b_S_commit 91 = .ok (.new 13, 3) := by decide +kernel
theorem d_S_commit_94 : decode b_S_commit 94 = .ok (.dup, 1) := by decide +kernel
theorem d_S_commit_95 : decode b_S_commit 95 = .ok (.aload_n 2, 1) := by decide +kernel
theorem d_S_commit_96 : decode b_S_commit 96 = .ok (.getfield 169, 3) := by decide +kernel
theorem d_S_commit_99 : decode b_S_commit 99 = .ok (.aload_n 2, 1) := by decide +kernel
theorem d_S_commit_100 : decode b_S_commit 100 = .ok (.getfield 175, 3) := by decide +kernel
theorem d_S_commit_103 : decode b_S_commit 103 = .ok (.iload 4, 2) := by decide +kernel
theorem d_S_commit_105 : decode b_S_commit 105 = .ok (.aload_n 2, 1) := by decide +kernel
theorem d_S_commit_106 : decode b_S_commit 106 = .ok (.getfield 132, 3) := by decide +kernel
theorem d_S_commit_109 : decode b_S_commit 109 = .ok (.invokevirtual 178, 3) := by decide +kernel
theorem d_S_commit_112 : decode b_S_commit 112 = .ok (.checkcast 179, 3) := by decide +kernel
theorem d_S_commit_115 : decode b_S_commit 115 = .ok (.invokespecial 51, 3) := by decide +kernel
theorem d_S_commit_118 : decode b_S_commit 118 = .ok (.aastore, 1) := by decide +kernel
theorem d_S_commit_119 : decode b_S_commit 119 = .ok (.aload_n 0, 1) := by decide +kernel
theorem d_S_commit_120 : decode b_S_commit 120 = .ok (.dup, 1) := by decide +kernel
theorem d_S_commit_121 : decode b_S_commit 121 = .ok (.getfield 54, 3) := by decide +kernel
theorem d_S_commit_124 : decode b_S_commit 124 = .ok (.iconst 1, 1) := by decide +kernel
theorem d_S_commit_125 : decode b_S_commit 125 = .ok (.iadd, 1) := by decide +kernel
theorem d_S_commit_126 : decode b_S_commit 126 = .ok (.putfield 54, 3) := by decide +kernel
theorem d_S_commit_129 : decode b_S_commit 129 = .ok (.aload_n 2, 1) := by decide +kernel
theorem d_S_commit_130 : decode b_S_commit 130 = .ok (.iload_n 3, 1) := by decide +kernel
theorem d_S_commit_131 : decode b_S_commit 131 = .ok (.invokevirtual 183, 3) := by decide +kernel
theorem d_S_commit_134 : decode b_S_commit 134 = .ok (.iload_n 3, 1) := by decide +kernel
theorem d_S_commit_135 : decode b_S_commit 135 = .ok (.ireturn, 1) := by decide +kernel
theorem d_B_hasUnsettled_0 : decode b_B_hasUnsettled 0 = .ok (.aload_n 0, 1) := by decide +kernel
theorem d_B_hasUnsettled_1 : decode b_B_hasUnsettled 1 = .ok (.getfield 36, 3) := by decide +kernel
theorem d_B_hasUnsettled_4 : decode b_B_hasUnsettled 4 = .ok (.ifnull 17, 3) := by decide +kernel
theorem d_B_hasUnsettled_7 : decode b_B_hasUnsettled 7 = .ok (.aload_n 0, 1) := by decide +kernel
theorem d_B_hasUnsettled_8 : decode b_B_hasUnsettled 8 = .ok (.getfield 36, 3) := by decide +kernel
theorem d_B_hasUnsettled_11 : decode b_B_hasUnsettled 11 = .ok (.getfield 46, 3) := by decide +kernel
theorem d_B_hasUnsettled_14 : decode b_B_hasUnsettled 14 = .ok (.ifCond .le 7, 3) := by decide +kernel
theorem d_B_hasUnsettled_17 : decode b_B_hasUnsettled 17 = .ok (.iconst 1, 1) := by decide +kernel
theorem d_B_hasUnsettled_18 : decode b_B_hasUnsettled 18 = .ok (.goto 4, 3) := by decide +kernel
theorem d_B_hasUnsettled_21 : decode b_B_hasUnsettled 21 = .ok (.iconst 0, 1) := by decide +kernel
theorem d_B_hasUnsettled_22 : decode b_B_hasUnsettled 22 = .ok (.ireturn, 1) := by decide +kernel
theorem d_S_claimPending_0 : decode b_S_claimPending 0 = .ok (.iconst 0, 1) := by decide +kernel
theorem d_S_claimPending_1 : decode b_S_claimPending 1 = .ok (.istore_n 2, 1) := by decide +kernel
theorem d_S_claimPending_2 : decode b_S_claimPending 2 = .ok (.iload_n 2, 1) := by decide +kernel
theorem d_S_claimPending_3 : decode b_S_claimPending 3 = .ok (.sipush 4096, 3) := by decide +kernel
theorem d_S_claimPending_6 : decode b_S_claimPending 6 = .ok (.if_icmp .ge 42, 3) := by decide +kernel
theorem d_S_claimPending_9 : decode b_S_claimPending 9 = .ok (.aload_n 0, 1) := by decide +kernel
theorem d_S_claimPending_10 : decode b_S_claimPending 10 = .ok (.iload_n 2, 1) := by decide +kernel
theorem d_S_claimPending_11 : decode b_S_claimPending 11 = .ok (.laload, 1) := by decide +kernel
theorem d_S_claimPending_12 : decode b_S_claimPending 12 = .ok (.invokestatic 233, 3) := by decide +kernel
theorem d_S_claimPending_15 : decode b_S_claimPending 15 = .ok (.bipush 24, 2) := by decide +kernel
theorem d_S_claimPending_17 : decode b_S_claimPending 17 = .ok (.if_icmp .ne 25, 3) := by decide +kernel
theorem d_S_claimPending_20 : decode b_S_claimPending 20 = .ok (.aload_n 0, 1) := by decide +kernel
theorem d_S_claimPending_21 : decode b_S_claimPending 21 = .ok (.iload_n 2, 1) := by decide +kernel
theorem d_S_claimPending_22 : decode b_S_claimPending 22 = .ok (.aload_n 0, 1) := by decide +kernel
theorem d_S_claimPending_23 : decode b_S_claimPending 23 = .ok (.iload_n 2, 1) := by decide +kernel
theorem d_S_claimPending_24 : decode b_S_claimPending 24 = .ok (.laload, 1) := by decide +kernel
theorem d_S_claimPending_25 : decode b_S_claimPending 25 = .ok (.invokestatic 142, 3) := by decide +kernel
theorem d_S_claimPending_28 : decode b_S_claimPending 28 = .ok (.iload_n 1, 1) := by decide +kernel
theorem d_S_claimPending_29 : decode b_S_claimPending 29 = .ok (.aload_n 0, 1) := by decide +kernel
theorem d_S_claimPending_30 : decode b_S_claimPending 30 = .ok (.iload_n 2, 1) := by decide +kernel
theorem d_S_claimPending_31 : decode b_S_claimPending 31 = .ok (.laload, 1) := by decide +kernel
theorem d_S_claimPending_32 : decode b_S_claimPending 32 = .ok (.invokestatic 236, 3) := by decide +kernel
theorem d_S_claimPending_35 : decode b_S_claimPending 35 = .ok (.invokestatic 297, 3) := by decide +kernel
theorem d_S_claimPending_38 : decode b_S_claimPending 38 = .ok (.invokestatic 300, 3) := by decide +kernel
theorem d_S_claimPending_41 : decode b_S_claimPending 41 = .ok (.lastore, 1) := by decide +kernel
theorem d_S_claimPending_42 : decode b_S_claimPending 42 = .ok (.iinc 2 1, 3) := by decide +kernel
theorem d_S_claimPending_45 : decode b_S_claimPending 45 = .ok (.goto (-43), 3) := by decide +kernel
theorem d_S_claimPending_48 : decode b_S_claimPending 48 = .ok (.return_, 1) := by decide +kernel
theorem d_S_merge_0 : decode b_S_merge 0 = .ok (.aload_n 0, 1) := by decide +kernel
theorem d_S_merge_1 : decode b_S_merge 1 = .ok (.iload_n 1, 1) := by decide +kernel
theorem d_S_merge_2 : decode b_S_merge 2 = .ok (.invokevirtual 84, 3) := by decide +kernel
theorem d_S_merge_5 : decode b_S_merge 5 = .ok (.astore_n 3, 1) := by decide +kernel
theorem d_S_merge_6 : decode b_S_merge 6 = .ok (.aload_n 0, 1) := by decide +kernel
theorem d_S_merge_7 : decode b_S_merge 7 = .ok (.iload_n 2, 1) := by decide +kernel
theorem d_S_merge_8 : decode b_S_merge 8 = .ok (.invokevirtual 77, 3) := by decide +kernel
theorem d_S_merge_11 : decode b_S_merge 11 = .ok (.astore 4, 2) := by decide +kernel
theorem d_S_merge_13 : decode b_S_merge 13 = .ok (.aload_n 3, 1) := by decide +kernel
theorem d_S_merge_14 : decode b_S_merge 14 = .ok (.ifnull 8, 3) := by decide +kernel
theorem d_S_merge_17 : decode b_S_merge 17 = .ok (.aload 4, 2) := by decide +kernel
theorem d_S_merge_19 : decode b_S_merge 19 = .ok (.ifnonnull 11, 3) := by decide +kernel
theorem d_S_merge_22 : decode b_S_merge 22 = .ok (.new 81, 3) := by decide +kernel
theorem d_S_merge_25 : decode b_S_merge 25 = .ok (.dup, 1) := by decide +kernel
theorem d_S_merge_26 : decode b_S_merge 26 = .ok (.invokespecial 83, 3) := by decide +kernel
theorem d_S_merge_29 : decode b_S_merge 29 = .ok (.athrow, 1) := by decide +kernel
theorem d_S_merge_30 : decode b_S_merge 30 = .ok (.aload_n 0, 1) := by decide +kernel
theorem d_S_merge_31 : decode b_S_merge 31 = .ok (.aload_n 3, 1) := by decide +kernel
theorem d_S_merge_32 : decode b_S_merge 32 = .ok (.invokevirtual 157, 3) := by decide +kernel
theorem d_S_merge_35 : decode b_S_merge 35 = .ok (.ifCond .ne 18, 3) := by decide +kernel
theorem d_S_merge_38 : decode b_S_merge 38 = .ok (.aload_n 0, 1) := by decide +kernel
theorem d_S_merge_39 : decode b_S_merge 39 = .ok (.aload_n 3, 1) := by decide +kernel
theorem d_S_merge_40 : decode b_S_merge 40 = .ok (.getfield 169, 3) := by decide +kernel
theorem d_S_merge_43 : decode b_S_merge 43 = .ok (.invokevirtual 172, 3) := by decide +kernel
theorem d_S_merge_46 : decode b_S_merge 46 = .ok (.iload_n 2, 1) := by decide +kernel
theorem d_S_merge_47 : decode b_S_merge 47 = .ok (.invokestatic 186, 3) := by decide +kernel
theorem d_S_merge_50 : decode b_S_merge 50 = .ok (.ifCond .eq 11, 3) := by decide +kernel
theorem d_S_merge_53 : decode b_S_merge 53 = .ok (.new 88, 3) := by decide +kernel
theorem d_S_merge_56 : decode b_S_merge 56 = .ok (.dup, 1) := by decide +kernel
theorem d_S_merge_57 : decode b_S_merge 57 = .ok (.invokespecial 90, 3) := by decide +kernel
theorem d_S_merge_60 : decode b_S_merge 60 = .ok (.athrow, 1) := by decide +kernel
theorem d_S_merge_61 : decode b_S_merge 61 = .ok (.aload_n 0, 1) := by decide +kernel
theorem d_S_merge_62 : decode b_S_merge 62 = .ok (.iconst 1, 1) := by decide +kernel
theorem d_S_merge_63 : decode b_S_merge 63 = .ok (.aload_n 3, 1) := by decide +kernel
theorem d_S_merge_64 : decode b_S_merge 64 = .ok (.getfield 169, 3) := by decide +kernel
theorem d_S_merge_67 : decode b_S_merge 67 = .ok (.ishl, 1) := by decide +kernel
theorem d_S_merge_68 : decode b_S_merge 68 = .ok (.iload_n 2, 1) := by decide +kernel
theorem d_S_merge_69 : decode b_S_merge 69 = .ok (.iconst 0, 1) := by decide +kernel
theorem d_S_merge_70 : decode b_S_merge 70 = .ok (.invokevirtual 189, 3) := by decide +kernel
theorem d_S_merge_73 : decode b_S_merge 73 = .ok (.astore 5, 2) := by decide +kernel
theorem d_S_merge_75 : decode b_S_merge 75 = .ok (.aload_n 3, 1) := by decide +kernel
theorem d_S_merge_76 : decode b_S_merge 76 = .ok (.invokevirtual 193, 3) := by decide +kernel
theorem d_S_merge_79 : decode b_S_merge 79 = .ok (.astore 6, 2) := by decide +kernel
theorem d_S_merge_81 : decode b_S_merge 81 = .ok (.aload_n 0, 1) := by decide +kernel
theorem d_S_merge_82 : decode b_S_merge 82 = .ok (.aload_n 3, 1) := by decide +kernel
theorem d_S_merge_83 : decode b_S_merge 83 = .ok (.getfield 132, 3) := by decide +kernel
theorem d_S_merge_86 : decode b_S_merge 86 = .ok (.aload 4, 2) := by decide +kernel
theorem d_S_merge_88 : decode b_S_merge 88 = .ok (.getfield 91, 3) := by decide +kernel
theorem d_S_merge_91 : decode b_S_merge 91 = .ok (.aload 5, 2) := by decide +kernel
theorem d_S_merge_93 : decode b_S_merge 93 = .ok (.getfield 197, 3) := by decide +kernel
theorem d_S_merge_96 : decode b_S_merge 96 = .ok (.aload 6, 2) := by decide +kernel
theorem d_S_merge_98 : decode b_S_merge 98 = .ok (.invokevirtual 200, 3) := by decide +kernel
theorem d_S_merge_101 : decode b_S_merge 101 = .ok (.aload_n 3, 1) := by decide +kernel
theorem d_S_merge_102 : decode b_S_merge 102 = .ok (.iload_n 2, 1) := by decide +kernel
theorem d_S_merge_103 : decode b_S_merge 103 = .ok (.putfield 175, 3) := by decide +kernel
theorem d_S_merge_106 : decode b_S_merge 106 = .ok (.aload 6, 2) := by decide +kernel
theorem d_S_merge_108 : decode b_S_merge 108 = .ok (.getfield 204, 3) := by decide +kernel
theorem d_S_merge_111 : decode b_S_merge 111 = .ok (.ireturn, 1) := by decide +kernel
theorem d_S_baseOf_0 : decode b_S_baseOf 0 = .ok (.aload_n 0, 1) := by decide +kernel
theorem d_S_baseOf_1 : decode b_S_baseOf 1 = .ok (.iload_n 3, 1) := by decide +kernel
theorem d_S_baseOf_2 : decode b_S_baseOf 2 = .ok (.invokevirtual 307, 3) := by decide +kernel
theorem d_S_baseOf_5 : decode b_S_baseOf 5 = .ok (.astore 4, 2) := by decide +kernel
theorem d_S_baseOf_7 : decode b_S_baseOf 7 = .ok (.aload_n 0, 1) := by decide +kernel
theorem d_S_baseOf_8 : decode b_S_baseOf 8 = .ok (.iload_n 1, 1) := by decide +kernel
theorem d_S_baseOf_9 : decode b_S_baseOf 9 = .ok (.iload_n 2, 1) := by decide +kernel
theorem d_S_baseOf_10 : decode b_S_baseOf 10 = .ok (.invokevirtual 260, 3) := by decide +kernel
theorem d_S_baseOf_13 : decode b_S_baseOf 13 = .ok (.istore 5, 2) := by decide +kernel
theorem d_S_baseOf_15 : decode b_S_baseOf 15 = .ok (.iconst 0, 1) := by decide +kernel
theorem d_S_baseOf_16 : decode b_S_baseOf 16 = .ok (.istore 6, 2) := by decide +kernel
theorem d_S_baseOf_18 : decode b_S_baseOf 18 = .ok (.iconst 0, 1) := by decide +kernel
theorem d_S_baseOf_19 : decode b_S_baseOf 19 = .ok (.istore 7, 2) := by decide +kernel
theorem d_S_baseOf_21 : decode b_S_baseOf 21 = .ok (.iload 7, 2) := by decide +kernel
theorem d_S_baseOf_23 : decode b_S_baseOf 23 = .ok (.aload_n 0, 1) := by decide +kernel
theorem d_S_baseOf_24 : decode b_S_baseOf 24 = .ok (.getfield 54, 3) := by decide +kernel
theorem d_S_baseOf_27 : decode b_S_baseOf 27 = .ok (.if_icmp .ge 39, 3) := by decide +kernel
theorem d_S_baseOf_30 : decode b_S_baseOf 30 = .ok (.iload 5, 2) := by decide +kernel
theorem d_S_baseOf_32 : decode b_S_baseOf 32 = .ok (.iload 7, 2) := by decide +kernel
theorem d_S_baseOf_34 : decode b_S_baseOf 34 = .ok (.invokestatic 186, 3) := by decide +kernel
theorem d_S_baseOf_37 : decode b_S_baseOf 37 = .ok (.ifCond .eq 23, 3) := by decide +kernel
theorem d_S_baseOf_40 : decode b_S_baseOf 40 = .ok (.aload_n 0, 1) := by decide +kernel
theorem d_S_baseOf_41 : decode b_S_baseOf 41 = .ok (.aload 4, 2) := by decide +kernel
theorem d_S_baseOf_43 : decode b_S_baseOf 43 = .ok (.iload 6, 2) := by decide +kernel
theorem d_S_baseOf_45 : decode b_S_baseOf 45 = .ok (.iload 7, 2) := by decide +kernel
theorem d_S_baseOf_47 : decode b_S_baseOf 47 = .ok (.iload_n 3, 1) := by decide +kernel
theorem d_S_baseOf_48 : decode b_S_baseOf 48 = .ok (.invokevirtual 311, 3) := by decide +kernel
theorem d_S_baseOf_51 : decode b_S_baseOf 51 = .ok (.iload 6, 2) := by decide +kernel
theorem d_S_baseOf_53 : decode b_S_baseOf 53 = .ok (.iconst 1, 1) := by decide +kernel
theorem d_S_baseOf_54 : decode b_S_baseOf 54 = .ok (.iload 7, 2) := by decide +kernel
theorem d_S_baseOf_56 : decode b_S_baseOf 56 = .ok (.ishl, 1) := by decide +kernel
theorem d_S_baseOf_57 : decode b_S_baseOf 57 = .ok (.ior, 1) := by decide +kernel
theorem d_S_baseOf_58 : decode b_S_baseOf 58 = .ok (.istore 6, 2) := by decide +kernel
theorem d_S_baseOf_60 : decode b_S_baseOf 60 = .ok (.iinc 7 1, 3) := by decide +kernel
theorem d_S_baseOf_63 : decode b_S_baseOf 63 = .ok (.goto (-42), 3) := by decide +kernel
theorem d_S_baseOf_66 : decode b_S_baseOf 66 = .ok (.aload 4, 2) := by decide +kernel
theorem d_S_baseOf_68 : decode b_S_baseOf 68 = .ok (.areturn, 1) := by decide +kernel
theorem d_S_baseRowAt_0 : decode b_S_baseRowAt 0 = .ok (.aload_n 0, 1) := by decide +kernel
theorem d_S_baseRowAt_1 : decode b_S_baseRowAt 1 = .ok (.getfield 39, 3) := by decide +kernel
theorem d_S_baseRowAt_4 : decode b_S_baseRowAt 4 = .ok (.iload_n 1, 1) := by decide +kernel
theorem d_S_baseRowAt_5 : decode b_S_baseRowAt 5 = .ok (.aaload, 1) := by decide +kernel
theorem d_S_baseRowAt_6 : decode b_S_baseRowAt 6 = .ok (.ifnonnull 16, 3) := by decide +kernel
theorem d_S_baseRowAt_9 : decode b_S_baseRowAt 9 = .ok (.aload_n 0, 1) := by decide +kernel
theorem d_S_baseRowAt_10 : decode b_S_baseRowAt 10 = .ok (.getfield 39, 3) := by decide +kernel
theorem d_S_baseRowAt_13 : decode b_S_baseRowAt 13 = .ok (.iload_n 1, 1) := by decide +kernel
theorem d_S_baseRowAt_14 : decode b_S_baseRowAt 14 = .ok (.new 37, 3) := by decide +kernel
theorem d_S_baseRowAt_17 : decode b_S_baseRowAt 17 = .ok (.dup, 1) := by decide +kernel
theorem d_S_baseRowAt_18 : decode b_S_baseRowAt 18 = .ok (.invokespecial 323, 3) := by decide +kernel
theorem d_S_baseRowAt_21 : decode b_S_baseRowAt 21 = .ok (.aastore, 1) := by decide +kernel
theorem d_S_baseRowAt_22 : decode b_S_baseRowAt 22 = .ok (.aload_n 0, 1) := by decide +kernel
theorem d_S_baseRowAt_23 : decode b_S_baseRowAt 23 = .ok (.getfield 39, 3) := by decide +kernel
theorem d_S_baseRowAt_26 : decode b_S_baseRowAt 26 = .ok (.iload_n 1, 1) := by decide +kernel
theorem d_S_baseRowAt_27 : decode b_S_baseRowAt 27 = .ok (.aaload, 1) := by decide +kernel
theorem d_S_baseRowAt_28 : decode b_S_baseRowAt 28 = .ok (.areturn, 1) := by decide +kernel
theorem d_R_init_0 : decode b_R_init 0 = .ok (.aload_n 0, 1) := by decide +kernel
theorem d_R_init_1 : decode b_R_init 1 = .ok (.invokespecial 3, 3) := by decide +kernel
theorem d_R_init_4 : decode b_R_init 4 = .ok (.aload_n 0, 1) := by decide +kernel
theorem d_R_init_5 : decode b_R_init 5 = .ok (.sipush 4096, 3) := by decide +kernel
theorem d_R_init_8 : decode b_R_init 8 = .ok (.newarray .int, 2) := by decide +kernel
theorem d_R_init_10 : decode b_R_init 10 = .ok (.putfield 9, 3) := by decide +kernel
theorem d_R_init_13 : decode b_R_init 13 = .ok (.return_, 1) := by decide +kernel
theorem d_S_joinBase_0 : decode b_S_joinBase 0 = .ok (.aload_n 0, 1) := by decide +kernel
theorem d_S_joinBase_1 : decode b_S_joinBase 1 = .ok (.iload_n 3, 1) := by decide +kernel
theorem d_S_joinBase_2 : decode b_S_joinBase 2 = .ok (.invokevirtual 77, 3) := by decide +kernel
theorem d_S_joinBase_5 : decode b_S_joinBase 5 = .ok (.astore 5, 2) := by decide +kernel
theorem d_S_joinBase_7 : decode b_S_joinBase 7 = .ok (.aload 5, 2) := by decide +kernel
theorem d_S_joinBase_9 : decode b_S_joinBase 9 = .ok (.ifnonnull 4, 3) := by decide +kernel
theorem d_S_joinBase_12 : decode b_S_joinBase 12 = .ok (.return_, 1) := by decide +kernel
theorem d_S_joinBase_13 : decode b_S_joinBase 13 = .ok (.iload_n 2, 1) := by decide +kernel
theorem d_S_joinBase_14 : decode b_S_joinBase 14 = .ok (.ifCond .ne 15, 3) := by decide +kernel
theorem d_S_joinBase_17 : decode b_S_joinBase 17 = .ok (.aload_n 1, 1) := by decide +kernel
theorem d_S_joinBase_18 : decode b_S_joinBase 18 = .ok (.aload 5, 2) := by decide +kernel
theorem d_S_joinBase_20 : decode b_S_joinBase 20 = .ok (.getfield 91, 3) := by decide +kernel
theorem d_S_joinBase_23 : decode b_S_joinBase 23 = .ok (.invokevirtual 315, 3) := by decide +kernel
theorem d_S_joinBase_26 : decode b_S_joinBase 26 = .ok (.goto 34, 3) := by decide +kernel
theorem d_S_joinBase_29 : decode b_S_joinBase 29 = .ok (.iload 4, 2) := by decide +kernel
theorem d_S_joinBase_31 : decode b_S_joinBase 31 = .ok (.iconst 1, 1) := by decide +kernel
theorem d_S_joinBase_32 : decode b_S_joinBase 32 = .ok (.iadd, 1) := by decide +kernel
theorem d_S_joinBase_33 : decode b_S_joinBase 33 = .ok (.bipush 24, 2) := by decide +kernel
theorem d_S_joinBase_35 : decode b_S_joinBase 35 = .ok (.if_icmp .ge 25, 3) := by decide +kernel
theorem d_S_joinBase_38 : decode b_S_joinBase 38 = .ok (.aload_n 1, 1) := by decide +kernel
theorem d_S_joinBase_39 : decode b_S_joinBase 39 = .ok (.aload 5, 2) := by decide +kernel
theorem d_S_joinBase_41 : decode b_S_joinBase 41 = .ok (.getfield 91, 3) := by decide +kernel
theorem d_S_joinBase_44 : decode b_S_joinBase 44 = .ok (.aload_n 0, 1) := by decide +kernel
theorem d_S_joinBase_45 : decode b_S_joinBase 45 = .ok (.iload_n 2, 1) := by decide +kernel
theorem d_S_joinBase_46 : decode b_S_joinBase 46 = .ok (.iload_n 3, 1) := by decide +kernel
theorem d_S_joinBase_47 : decode b_S_joinBase 47 = .ok (.iload 4, 2) := by decide +kernel
theorem d_S_joinBase_49 : decode b_S_joinBase 49 = .ok (.iconst 1, 1) := by decide +kernel
theorem d_S_joinBase_50 : decode b_S_joinBase 50 = .ok (.iadd, 1) := by decide +kernel
theorem d_S_joinBase_51 : decode b_S_joinBase 51 = .ok (.invokevirtual 189, 3) := by decide +kernel
theorem d_S_joinBase_54 : decode b_S_joinBase 54 = .ok (.getfield 197, 3) := by decide +kernel
theorem d_S_joinBase_57 : decode b_S_joinBase 57 = .ok (.invokevirtual 319, 3) := by decide +kernel
theorem d_S_joinBase_60 : decode b_S_joinBase 60 = .ok (.return_, 1) := by decide +kernel
theorem d_R_take_0 : decode b_R_take 0 = .ok (.iconst 0, 1) := by decide +kernel
theorem d_R_take_1 : decode b_R_take 1 = .ok (.istore_n 2, 1) := by decide +kernel
theorem d_R_take_2 : decode b_R_take 2 = .ok (.iload_n 2, 1) := by decide +kernel
theorem d_R_take_3 : decode b_R_take 3 = .ok (.sipush 4096, 3) := by decide +kernel
theorem d_R_take_6 : decode b_R_take 6 = .ok (.if_icmp .ge 21, 3) := by decide +kernel
theorem d_R_take_9 : decode b_R_take 9 = .ok (.aload_n 0, 1) := by decide +kernel
theorem d_R_take_10 : decode b_R_take 10 = .ok (.getfield 9, 3) := by decide +kernel
theorem d_R_take_13 : decode b_R_take 13 = .ok (.iload_n 2, 1) := by decide +kernel
theorem d_R_take_14 : decode b_R_take 14 = .ok (.aload_n 1, 1) := by decide +kernel
theorem d_R_take_15 : decode b_R_take 15 = .ok (.iload_n 2, 1) := by decide +kernel
theorem d_R_take_16 : decode b_R_take 16 = .ok (.laload, 1) := by decide +kernel
theorem d_R_take_17 : decode b_R_take 17 = .ok (.invokestatic 15, 3) := by decide +kernel
theorem d_R_take_20 : decode b_R_take 20 = .ok (.iastore, 1) := by decide +kernel
theorem d_R_take_21 : decode b_R_take 21 = .ok (.iinc 2 1, 3) := by decide +kernel
theorem d_R_take_24 : decode b_R_take 24 = .ok (.goto (-22), 3) := by decide +kernel
theorem d_R_take_27 : decode b_R_take 27 = .ok (.return_, 1) := by decide +kernel
theorem d_R_mergeWith_0 : decode b_R_mergeWith 0 = .ok (.iconst 0, 1) := by decide +kernel
theorem d_R_mergeWith_1 : decode b_R_mergeWith 1 = .ok (.istore_n 3, 1) := by decide +kernel
theorem d_R_mergeWith_2 : decode b_R_mergeWith 2 = .ok (.iload_n 3, 1) := by decide +kernel
theorem d_R_mergeWith_3 : decode b_R_mergeWith 3 = .ok (.sipush 4096, 3) := by decide +kernel
theorem d_R_mergeWith_6 : decode b_R_mergeWith 6 = .ok (.if_icmp .ge 65, 3) := by decide +kernel
theorem d_R_mergeWith_9 : decode b_R_mergeWith 9 = .ok (.aload_n 1, 1) := by decide +kernel
theorem d_R_mergeWith_10 : decode b_R_mergeWith 10 = .ok (.iload_n 3, 1) := by decide +kernel
theorem d_R_mergeWith_11 : decode b_R_mergeWith 11 = .ok (.laload, 1) := by decide +kernel
theorem d_R_mergeWith_12 : decode b_R_mergeWith 12 = .ok (.invokestatic 15, 3) := by decide +kernel
theorem d_R_mergeWith_15 : decode b_R_mergeWith 15 = .ok (.istore 4, 2) := by decide +kernel
theorem d_R_mergeWith_17 : decode b_R_mergeWith 17 = .ok (.aload_n 0, 1) := by decide +kernel
theorem d_R_mergeWith_18 : decode b_R_mergeWith 18 = .ok (.getfield 9, 3) := by decide +kernel
theorem d_R_mergeWith_21 : decode b_R_mergeWith 21 = .ok (.iload_n 3, 1) := by decide +kernel
theorem d_R_mergeWith_22 : decode b_R_mergeWith 22 = .ok (.iaload, 1) := by decide +kernel
theorem d_R_mergeWith_23 : decode b_R_mergeWith 23 = .ok (.aload_n 2, 1) := by decide +kernel
theorem d_R_mergeWith_24 : decode b_R_mergeWith 24 = .ok (.iload_n 3, 1) := by decide +kernel
theorem d_R_mergeWith_25 : decode b_R_mergeWith 25 = .ok (.iaload, 1) := by decide +kernel
theorem d_R_mergeWith_26 : decode b_R_mergeWith 26 = .ok (.if_icmp .ne 14, 3) := by decide +kernel
theorem d_R_mergeWith_29 : decode b_R_mergeWith 29 = .ok (.aload_n 0, 1) := by decide +kernel
theorem d_R_mergeWith_30 : decode b_R_mergeWith 30 = .ok (.getfield 9, 3) := by decide +kernel
theorem d_R_mergeWith_33 : decode b_R_mergeWith 33 = .ok (.iload_n 3, 1) := by decide +kernel
theorem d_R_mergeWith_34 : decode b_R_mergeWith 34 = .ok (.iload 4, 2) := by decide +kernel
theorem d_R_mergeWith_36 : decode b_R_mergeWith 36 = .ok (.iastore, 1) := by decide +kernel
theorem d_R_mergeWith_37 : decode b_R_mergeWith 37 = .ok (.goto 28, 3) := by decide +kernel
theorem d_R_mergeWith_40 : decode b_R_mergeWith 40 = .ok (.aload_n 0, 1) := by decide +kernel
theorem d_R_mergeWith_41 : decode b_R_mergeWith 41 = .ok (.getfield 9, 3) := by decide +kernel
theorem d_R_mergeWith_44 : decode b_R_mergeWith 44 = .ok (.iload_n 3, 1) := by decide +kernel
theorem d_R_mergeWith_45 : decode b_R_mergeWith 45 = .ok (.iaload, 1) := by decide +kernel
theorem d_R_mergeWith_46 : decode b_R_mergeWith 46 = .ok (.iload 4, 2) := by decide +kernel
theorem d_R_mergeWith_48 : decode b_R_mergeWith 48 = .ok (.aload_n 2, 1) := by decide +kernel
theorem d_R_mergeWith_49 : decode b_R_mergeWith 49 = .ok (.iload_n 3, 1) := by decide +kernel
theorem d_R_mergeWith_50 : decode b_R_mergeWith 50 = .ok (.iaload, 1) := by decide +kernel
theorem d_R_mergeWith_51 : decode b_R_mergeWith 51 = .ok (.invokestatic 19, 3) := by decide +kernel
theorem d_R_mergeWith_54 : decode b_R_mergeWith 54 = .ok (.ifCond .eq 11, 3) := by decide +kernel
theorem d_R_mergeWith_57 : decode b_R_mergeWith 57 = .ok (.aload_n 0, 1) := by decide +kernel
theorem d_R_mergeWith_58 : decode b_R_mergeWith 58 = .ok (.getfield 9, 3) := by decide +kernel
theorem d_R_mergeWith_61 : decode b_R_mergeWith 61 = .ok (.iload_n 3, 1) := by decide +kernel
theorem d_R_mergeWith_62 : decode b_R_mergeWith 62 = .ok (.ldc 23, 2) := by decide +kernel
theorem d_R_mergeWith_64 : decode b_R_mergeWith 64 = .ok (.iastore, 1) := by decide +kernel
theorem d_R_mergeWith_65 : decode b_R_mergeWith 65 = .ok (.iinc 3 1, 3) := by decide +kernel
theorem d_R_mergeWith_68 : decode b_R_mergeWith 68 = .ok (.goto (-66), 3) := by decide +kernel
theorem d_R_mergeWith_71 : decode b_R_mergeWith 71 = .ok (.return_, 1) := by decide +kernel
theorem d_S_isConflict_0 : decode b_S_isConflict 0 = .ok (.iload_n 0, 1) := by decide +kernel
theorem d_S_isConflict_1 : decode b_S_isConflict 1 = .ok (.iload_n 2, 1) := by decide +kernel
theorem d_S_isConflict_2 : decode b_S_isConflict 2 = .ok (.if_icmp .eq 17, 3) := by decide +kernel
theorem d_S_isConflict_5 : decode b_S_isConflict 5 = .ok (.iload_n 1, 1) := by decide +kernel
theorem d_S_isConflict_6 : decode b_S_isConflict 6 = .ok (.iload_n 2, 1) := by decide +kernel
theorem d_S_isConflict_7 : decode b_S_isConflict 7 = .ok (.if_icmp .eq 12, 3) := by decide +kernel
theorem d_S_isConflict_10 : decode b_S_isConflict 10 = .ok (.iload_n 0, 1) := by decide +kernel
theorem d_S_isConflict_11 : decode b_S_isConflict 11 = .ok (.iload_n 1, 1) := by decide +kernel
theorem d_S_isConflict_12 : decode b_S_isConflict 12 = .ok (.if_icmp .eq 7, 3) := by decide +kernel
theorem d_S_isConflict_15 : decode b_S_isConflict 15 = .ok (.iconst 1, 1) := by decide +kernel
theorem d_S_isConflict_16 : decode b_S_isConflict 16 = .ok (.goto 4, 3) := by decide +kernel
theorem d_S_isConflict_19 : decode b_S_isConflict 19 = .ok (.iconst 0, 1) := by decide +kernel
theorem d_S_isConflict_20 : decode b_S_isConflict 20 = .ok (.ireturn, 1) := by decide +kernel
theorem d_B_freshConflicts_0 : decode b_B_freshConflicts 0 = .ok (.aload_n 0, 1) := by decide +kernel
theorem d_B_freshConflicts_1 : decode b_B_freshConflicts 1 = .ok (.getfield 36, 3) := by decide +kernel
theorem d_B_freshConflicts_4 : decode b_B_freshConflicts 4 = .ok (.ifnonnull 14, 3) := by decide +kernel
theorem d_B_freshConflicts_7 : decode b_B_freshConflicts 7 = .ok (.aload_n 0, 1) := by decide +kernel
theorem d_B_freshConflicts_8 : decode b_B_freshConflicts 8 = .ok (.new 41, 3) := by decide +kernel
theorem d_B_freshConflicts_11 : decode b_B_freshConflicts 11 = .ok (.dup, 1) := by decide +kernel
theorem d_B_freshConflicts_12 : decode b_B_freshConflicts 12 = .ok (.invokespecial 45, 3) := by decide +kernel
theorem d_B_freshConflicts_15 : decode b_B_freshConflicts 15 = .ok (.putfield 36, 3) := by decide +kernel
theorem d_B_freshConflicts_18 : decode b_B_freshConflicts 18 = .ok (.aload_n 0, 1) := by decide +kernel
theorem d_B_freshConflicts_19 : decode b_B_freshConflicts 19 = .ok (.getfield 36, 3) := by decide +kernel
theorem d_B_freshConflicts_22 : decode b_B_freshConflicts 22 = .ok (.invokevirtual 40, 3) := by decide +kernel
theorem d_B_freshConflicts_25 : decode b_B_freshConflicts 25 = .ok (.aload_n 0, 1) := by decide +kernel
theorem d_B_freshConflicts_26 : decode b_B_freshConflicts 26 = .ok (.getfield 36, 3) := by decide +kernel
theorem d_B_freshConflicts_29 : decode b_B_freshConflicts 29 = .ok (.areturn, 1) := by decide +kernel
theorem d_K_init_0 : decode b_K_init 0 = .ok (.aload_n 0, 1) := by decide +kernel
theorem d_K_init_1 : decode b_K_init 1 = .ok (.invokespecial 3, 3) := by decide +kernel
theorem d_K_init_4 : decode b_K_init 4 = .ok (.aload_n 0, 1) := by decide +kernel
theorem d_K_init_5 : decode b_K_init 5 = .ok (.sipush 4096, 3) := by decide +kernel
theorem d_K_init_8 : decode b_K_init 8 = .ok (.newarray .int, 2) := by decide +kernel
theorem d_K_init_10 : decode b_K_init 10 = .ok (.putfield 9, 3) := by decide +kernel
theorem d_K_init_13 : decode b_K_init 13 = .ok (.aload_n 0, 1) := by decide +kernel
theorem d_K_init_14 : decode b_K_init 14 = .ok (.sipush 4096, 3) := by decide +kernel
theorem d_K_init_17 : decode b_K_init 17 = .ok (.newarray .int, 2) := by decide +kernel
theorem d_K_init_19 : decode b_K_init 19 = .ok (.putfield 15, 3) := by decide +kernel
theorem d_K_init_22 : decode b_K_init 22 = .ok (.aload_n 0, 1) := by decide +kernel
theorem d_K_init_23 : decode b_K_init 23 = .ok (.sipush 4096, 3) := by decide +kernel
theorem d_K_init_26 : decode b_K_init 26 = .ok (.newarray .int, 2) := by decide +kernel
theorem d_K_init_28 : decode b_K_init 28 = .ok (.putfield 18, 3) := by decide +kernel
theorem d_K_init_31 : decode b_K_init 31 = .ok (.aload_n 0, 1) := by decide +kernel
theorem d_K_init_32 : decode b_K_init 32 = .ok (.sipush 4096, 3) := by decide +kernel
theorem d_K_init_35 : decode b_K_init 35 = .ok (.newarray .int, 2) := by decide +kernel
theorem d_K_init_37 : decode b_K_init 37 = .ok (.putfield 21, 3) := by decide +kernel
theorem d_K_init_40 : decode b_K_init 40 = .ok (.aload_n 0, 1) := by decide +kernel
theorem d_K_init_41 : decode b_K_init 41 = .ok (.sipush 4096, 3) := by decide +kernel
theorem d_K_init_44 : decode b_K_init 44 = .ok (.newarray .boolean, 2) := by decide +kernel
theorem d_K_init_46 : decode b_K_init 46 = .ok (.putfield 24, 3) := by decide +kernel
theorem d_K_init_49 : decode b_K_init 49 = .ok (.return_, 1) := by decide +kernel
theorem d_S_mergeCells_0 : decode b_S_mergeCells 0 = .ok (.iconst 0, 1) := by decide +kernel
theorem d_S_mergeCells_1 : decode b_S_mergeCells 1 = .ok (.istore 5, 2) := by decide +kernel
theorem d_S_mergeCells_3 : decode b_S_mergeCells 3 = .ok (.iload 5, 2) := by decide +kernel
theorem d_S_mergeCells_5 : decode b_S_mergeCells 5 = .ok (.sipush 4096, 3) := by decide +kernel
theorem d_S_mergeCells_8 : decode b_S_mergeCells 8 = .ok (.if_icmp .ge 127, 3) := by decide +kernel
theorem d_S_mergeCells_11 : decode b_S_mergeCells 11 = .ok (.aload_n 1, 1) := by decide +kernel
theorem d_S_mergeCells_12 : decode b_S_mergeCells 12 = .ok (.iload 5, 2) := by decide +kernel
theorem d_S_mergeCells_14 : decode b_S_mergeCells 14 = .ok (.laload, 1) := by decide +kernel
theorem d_S_mergeCells_15 : decode b_S_mergeCells 15 = .ok (.invokestatic 142, 3) := by decide +kernel
theorem d_S_mergeCells_18 : decode b_S_mergeCells 18 = .ok (.istore 6, 2) := by decide +kernel
theorem d_S_mergeCells_20 : decode b_S_mergeCells 20 = .ok (.aload_n 2, 1) := by decide +kernel
theorem d_S_mergeCells_21 : decode b_S_mergeCells 21 = .ok (.iload 5, 2) := by decide +kernel
theorem d_S_mergeCells_23 : decode b_S_mergeCells 23 = .ok (.laload, 1) := by decide +kernel
theorem d_S_mergeCells_24 : decode b_S_mergeCells 24 = .ok (.invokestatic 142, 3) := by decide +kernel
theorem d_S_mergeCells_27 : decode b_S_mergeCells 27 = .ok (.istore 7, 2) := by decide +kernel
theorem d_S_mergeCells_29 : decode b_S_mergeCells 29 = .ok (.aload_n 0, 1) := by decide +kernel
theorem d_S_mergeCells_30 : decode b_S_mergeCells 30 = .ok (.getfield 9, 3) := by decide +kernel
theorem d_S_mergeCells_33 : decode b_S_mergeCells 33 = .ok (.iload 5, 2) := by decide +kernel
theorem d_S_mergeCells_35 : decode b_S_mergeCells 35 = .ok (.invokestatic 239, 3) := by decide +kernel
theorem d_S_mergeCells_38 : decode b_S_mergeCells 38 = .ok (.iaload, 1) := by decide +kernel
theorem d_S_mergeCells_39 : decode b_S_mergeCells 39 = .ok (.istore 8, 2) := by decide +kernel
theorem d_S_mergeCells_41 : decode b_S_mergeCells 41 = .ok (.iload 6, 2) := by decide +kernel
theorem d_S_mergeCells_43 : decode b_S_mergeCells 43 = .ok (.iload 7, 2) := by decide +kernel
theorem d_S_mergeCells_45 : decode b_S_mergeCells 45 = .ok (.aload_n 3, 1) := by decide +kernel
theorem d_S_mergeCells_46 : decode b_S_mergeCells 46 = .ok (.iload 5, 2) := by decide +kernel
theorem d_S_mergeCells_48 : decode b_S_mergeCells 48 = .ok (.iaload, 1) := by decide +kernel
theorem d_S_mergeCells_49 : decode b_S_mergeCells 49 = .ok (.invokestatic 324, 3) := by decide +kernel
theorem d_S_mergeCells_52 : decode b_S_mergeCells 52 = .ok (.ifCond .eq 53, 3) := by decide +kernel
theorem d_S_mergeCells_55 : decode b_S_mergeCells 55 = .ok (.iload 8, 2) := by decide +kernel
theorem d_S_mergeCells_57 : decode b_S_mergeCells 57 = .ok (.ifCond .ne 21, 3) := by decide +kernel
theorem d_S_mergeCells_60 : decode b_S_mergeCells 60 = .ok (.aload 4, 2) := by decide +kernel
theorem d_S_mergeCells_62 : decode b_S_mergeCells 62 = .ok (.iload 5, 2) := by decide +kernel
theorem d_S_mergeCells_64 : decode b_S_mergeCells 64 = .ok (.iload 6, 2) := by decide +kernel
theorem d_S_mergeCells_66 : decode b_S_mergeCells 66 = .ok (.iload 7, 2) := by decide +kernel
theorem d_S_mergeCells_68 : decode b_S_mergeCells 68 = .ok (.aload_n 3, 1) := by decide +kernel
theorem d_S_mergeCells_69 : decode b_S_mergeCells 69 = .ok (.iload 5, 2) := by decide +kernel
theorem d_S_mergeCells_71 : decode b_S_mergeCells 71 = .ok (.iaload, 1) := by decide +kernel
theorem d_S_mergeCells_72 : decode b_S_mergeCells 72 = .ok (.invokevirtual 327, 3) := by decide +kernel
theorem d_S_mergeCells_75 : decode b_S_mergeCells 75 = .ok (.goto 54, 3) := by decide +kernel
theorem d_S_mergeCells_78 : decode b_S_mergeCells 78 = .ok (.iload 8, 2) := by decide +kernel
theorem d_S_mergeCells_80 : decode b_S_mergeCells 80 = .ok (.aload_n 1, 1) := by decide +kernel
theorem d_S_mergeCells_81 : decode b_S_mergeCells 81 = .ok (.iload 5, 2) := by decide +kernel
theorem d_S_mergeCells_83 : decode b_S_mergeCells 83 = .ok (.laload, 1) := by decide +kernel
theorem d_S_mergeCells_84 : decode b_S_mergeCells 84 = .ok (.aload_n 2, 1) := by decide +kernel
theorem d_S_mergeCells_85 : decode b_S_mergeCells 85 = .ok (.iload 5, 2) := by decide +kernel
theorem d_S_mergeCells_87 : decode b_S_mergeCells 87 = .ok (.laload, 1) := by decide +kernel
theorem d_S_mergeCells_88 : decode b_S_mergeCells 88 = .ok (.invokestatic 331, 3) := by decide +kernel
theorem d_S_mergeCells_91 : decode b_S_mergeCells 91 = .ok (.ifCond .eq 38, 3) := by decide +kernel
theorem d_S_mergeCells_94 : decode b_S_mergeCells 94 = .ok (.aload_n 1, 1) := by decide +kernel
theorem d_S_mergeCells_95 : decode b_S_mergeCells 95 = .ok (.iload 5, 2) := by decide +kernel
theorem d_S_mergeCells_97 : decode b_S_mergeCells 97 = .ok (.aload_n 2, 1) := by decide +kernel
theorem d_S_mergeCells_98 : decode b_S_mergeCells 98 = .ok (.iload 5, 2) := by decide +kernel
theorem d_S_mergeCells_100 : decode b_S_mergeCells 100 = .ok (.laload, 1) := by decide +kernel
theorem d_S_mergeCells_101 : decode b_S_mergeCells 101 = .ok (.lastore, 1) := by decide +kernel
theorem d_S_mergeCells_102 : decode b_S_mergeCells 102 = .ok (.goto 27, 3) := by decide +kernel
theorem d_S_mergeCells_105 : decode b_S_mergeCells 105 = .ok (.iload 6, 2) := by decide +kernel
theorem d_S_mergeCells_107 : decode b_S_mergeCells 107 = .ok (.aload_n 3, 1) := by decide +kernel
theorem d_S_mergeCells_108 : decode b_S_mergeCells 108 = .ok (.iload 5, 2) := by decide +kernel
theorem d_S_mergeCells_110 : decode b_S_mergeCells 110 = .ok (.iaload, 1) := by decide +kernel
theorem d_S_mergeCells_111 : decode b_S_mergeCells 111 = .ok (.if_icmp .ne 18, 3) := by decide +kernel
theorem d_S_mergeCells_114 : decode b_S_mergeCells 114 = .ok (.iload 6, 2) := by decide +kernel
theorem d_S_mergeCells_116 : decode b_S_mergeCells 116 = .ok (.iload 7, 2) := by decide +kernel
theorem d_S_mergeCells_118 : decode b_S_mergeCells 118 = .ok (.if_icmp .eq 11, 3) := by decide +kernel
theorem d_S_mergeCells_121 : decode b_S_mergeCells 121 = .ok (.aload_n 1, 1) := by decide +kernel
theorem d_S_mergeCells_122 : decode b_S_mergeCells 122 = .ok (.iload 5, 2) := by decide +kernel
theorem d_S_mergeCells_124 : decode b_S_mergeCells 124 = .ok (.aload_n 2, 1) := by decide +kernel
theorem d_S_mergeCells_125 : decode b_S_mergeCells 125 = .ok (.iload 5, 2) := by decide +kernel
theorem d_S_mergeCells_127 : decode b_S_mergeCells 127 = .ok (.laload, 1) := by decide +kernel
theorem d_S_mergeCells_128 : decode b_S_mergeCells 128 = .ok (.lastore, 1) := by decide +kernel
theorem d_S_mergeCells_129 : decode b_S_mergeCells 129 = .ok (.iinc 5 1, 3) := by decide +kernel
theorem d_S_mergeCells_132 : decode b_S_mergeCells 132 = .ok (.goto (-129), 3) := by decide +kernel
theorem d_S_mergeCells_135 : decode b_S_mergeCells 135 = .ok (.return_, 1) := by decide +kernel
theorem d_K_add_0 : decode b_K_add 0 = .ok (.aload_n 0, 1) := by decide +kernel
theorem d_K_add_1 : decode b_K_add 1 = .ok (.getfield 28, 3) := by decide +kernel
theorem d_K_add_4 : decode b_K_add 4 = .ok (.sipush 4096, 3) := by decide +kernel
theorem d_K_add_7 : decode b_K_add 7 = .ok (.if_icmp .lt 4, 3) := by decide +kernel
theorem d_K_add_10 : decode b_K_add 10 = .ok (.return_, 1) := by decide +kernel
theorem d_K_add_11 : decode b_K_add 11 = .ok (.aload_n 0, 1) := by decide +kernel
theorem d_K_add_12 : decode b_K_add 12 = .ok (.getfield 9, 3) := by decide +kernel
theorem d_K_add_15 : decode b_K_add 15 = .ok (.aload_n 0, 1) := by decide +kernel
theorem d_K_add_16 : decode b_K_add 16 = .ok (.getfield 28, 3) := by decide +kernel
theorem d_K_add_19 : decode b_K_add 19 = .ok (.iload_n 1, 1) := by decide +kernel
theorem d_K_add_20 : decode b_K_add 20 = .ok (.iastore, 1) := by decide +kernel
theorem d_K_add_21 : decode b_K_add 21 = .ok (.aload_n 0, 1) := by decide +kernel
theorem d_K_add_22 : decode b_K_add 22 = .ok (.getfield 15, 3) := by decide +kernel
theorem d_K_add_25 : decode b_K_add 25 = .ok (.aload_n 0, 1) := by decide +kernel
theorem d_K_add_26 : decode b_K_add 26 = .ok (.getfield 28, 3) := by decide +kernel
theorem d_K_add_29 : decode b_K_add 29 = .ok (.iload_n 2, 1) := by decide +kernel
theorem d_K_add_30 : decode b_K_add 30 = .ok (.iastore, 1) := by decide +kernel
theorem d_K_add_31 : decode b_K_add 31 = .ok (.aload_n 0, 1) := by decide +kernel
theorem d_K_add_32 : decode b_K_add 32 = .ok (.getfield 18, 3) := by decide +kernel
theorem d_K_add_35 : decode b_K_add 35 = .ok (.aload_n 0, 1) := by decide +kernel
theorem d_K_add_36 : decode b_K_add 36 = .ok (.getfield 28, 3) := by decide +kernel
theorem d_K_add_39 : decode b_K_add 39 = .ok (.iload_n 3, 1) := by decide +kernel
theorem d_K_add_40 : decode b_K_add 40 = .ok (.iastore, 1) := by decide +kernel
theorem d_K_add_41 : decode b_K_add 41 = .ok (.aload_n 0, 1) := by decide +kernel
theorem d_K_add_42 : decode b_K_add 42 = .ok (.getfield 21, 3) := by decide +kernel
theorem d_K_add_45 : decode b_K_add 45 = .ok (.aload_n 0, 1) := by decide +kernel
theorem d_K_add_46 : decode b_K_add 46 = .ok (.getfield 28, 3) := by decide +kernel
theorem d_K_add_49 : decode b_K_add 49 = .ok (.iload 4, 2) := by decide +kernel
theorem d_K_add_51 : decode b_K_add 51 = .ok (.iastore, 1) := by decide +kernel
theorem d_K_add_52 : decode b_K_add 52 = .ok (.aload_n 0, 1) := by decide +kernel
theorem d_K_add_53 : decode b_K_add 53 = .ok (.getfield 24, 3) := by decide +kernel
theorem d_K_add_56 : decode b_K_add 56 = .ok (.aload_n 0, 1) := by decide +kernel
theorem d_K_add_57 : decode b_K_add 57 = .ok (.getfield 28, 3) := by decide +kernel
theorem d_K_add_60 : decode b_K_add 60 = .ok (.iconst 0, 1) := by decide +kernel
theorem d_K_add_61 : decode b_K_add 61 = .ok (.bastore, 1) := by decide +kernel
theorem d_K_add_62 : decode b_K_add 62 = .ok (.aload_n 0, 1) := by decide +kernel
theorem d_K_add_63 : decode b_K_add 63 = .ok (.dup, 1) := by decide +kernel
theorem d_K_add_64 : decode b_K_add 64 = .ok (.getfield 28, 3) := by decide +kernel
theorem d_K_add_67 : decode b_K_add 67 = .ok (.iconst 1, 1) := by decide +kernel
theorem d_K_add_68 : decode b_K_add 68 = .ok (.iadd, 1) := by decide +kernel
theorem d_K_add_69 : decode b_K_add 69 = .ok (.putfield 28, 3) := by decide +kernel
theorem d_K_add_72 : decode b_K_add 72 = .ok (.aload_n 0, 1) := by decide +kernel
theorem d_K_add_73 : decode b_K_add 73 = .ok (.dup, 1) := by decide +kernel
theorem d_K_add_74 : decode b_K_add 74 = .ok (.getfield 32, 3) := by decide +kernel
theorem d_K_add_77 : decode b_K_add 77 = .ok (.iconst 1, 1) := by decide +kernel
theorem d_K_add_78 : decode b_K_add 78 = .ok (.iadd, 1) := by decide +kernel
theorem d_K_add_79 : decode b_K_add 79 = .ok (.putfield 32, 3) := by decide +kernel
theorem d_K_add_82 : decode b_K_add 82 = .ok (.return_, 1) := by decide +kernel
theorem d_S_otherWins_0 : decode b_S_otherWins 0 = .ok (.iload_n 0, 1) := by decide +kernel
theorem d_S_otherWins_1 : decode b_S_otherWins 1 = .ok (.tableswitch 78 1 3 #[27, 44, 61], 27) := by decide +kernel
theorem d_S_otherWins_28 : decode b_S_otherWins 28 = .ok (.lload_n 3, 1) := by decide +kernel
theorem d_S_otherWins_29 : decode b_S_otherWins 29 = .ok (.invokestatic 142, 3) := by decide +kernel
theorem d_S_otherWins_32 : decode b_S_otherWins 32 = .ok (.lload_n 1, 1) := by decide +kernel
theorem d_S_otherWins_33 : decode b_S_otherWins 33 = .ok (.invokestatic 142, 3) := by decide +kernel
theorem d_S_otherWins_36 : decode b_S_otherWins 36 = .ok (.if_icmp .le 7, 3) := by decide +kernel
theorem d_S_otherWins_39 : decode b_S_otherWins 39 = .ok (.iconst 1, 1) := by decide +kernel
theorem d_S_otherWins_40 : decode b_S_otherWins 40 = .ok (.goto 4, 3) := by decide +kernel
theorem d_S_otherWins_43 : decode b_S_otherWins 43 = .ok (.iconst 0, 1) := by decide +kernel
theorem d_S_otherWins_44 : decode b_S_otherWins 44 = .ok (.ireturn, 1) := by decide +kernel
theorem d_S_otherWins_45 : decode b_S_otherWins 45 = .ok (.lload_n 3, 1) := by decide +kernel
theorem d_S_otherWins_46 : decode b_S_otherWins 46 = .ok (.invokestatic 142, 3) := by decide +kernel
theorem d_S_otherWins_49 : decode b_S_otherWins 49 = .ok (.lload_n 1, 1) := by decide +kernel
theorem d_S_otherWins_50 : decode b_S_otherWins 50 = .ok (.invokestatic 142, 3) := by decide +kernel
theorem d_S_otherWins_53 : decode b_S_otherWins 53 = .ok (.if_icmp .ge 7, 3) := by decide +kernel
theorem d_S_otherWins_56 : decode b_S_otherWins 56 = .ok (.iconst 1, 1) := by decide +kernel
theorem d_S_otherWins_57 : decode b_S_otherWins 57 = .ok (.goto 4, 3) := by decide +kernel
theorem d_S_otherWins_60 : decode b_S_otherWins 60 = .ok (.iconst 0, 1) := by decide +kernel
theorem d_S_otherWins_61 : decode b_S_otherWins 61 = .ok (.ireturn, 1) := by decide +kernel
theorem d_S_otherWins_62 : decode b_S_otherWins 62 = .ok (.lload_n 3, 1) := by decide +kernel
theorem d_S_otherWins_63 : decode b_S_otherWins 63 = .ok (.invokestatic 233, 3) := by decide +kernel
theorem d_S_otherWins_66 : decode b_S_otherWins 66 = .ok (.lload_n 1, 1) := by decide +kernel
theorem d_S_otherWins_67 : decode b_S_otherWins 67 = .ok (.invokestatic 233, 3) := by decide +kernel
theorem d_S_otherWins_70 : decode b_S_otherWins 70 = .ok (.if_icmp .le 7, 3) := by decide +kernel
theorem d_S_otherWins_73 : decode b_S_otherWins 73 = .ok (.iconst 1, 1) := by decide +kernel
theorem d_S_otherWins_74 : decode b_S_otherWins 74 = .ok (.goto 4, 3) := by decide +kernel
theorem d_S_otherWins_77 : decode b_S_otherWins 77 = .ok (.iconst 0, 1) := by decide +kernel
theorem d_S_otherWins_78 : decode b_S_otherWins 78 = .ok (.ireturn, 1) := by decide +kernel
theorem d_S_otherWins_79 : decode b_S_otherWins 79 = .ok (.iconst 0, 1) := by decide +kernel
theorem d_S_otherWins_80 : decode b_S_otherWins 80 = .ok (.ireturn, 1) := by decide +kernel
theorem d_S_settle_0 : decode b_S_settle 0 = .ok (.aload_n 0, 1) := by decide +kernel
theorem d_S_settle_1 : decode b_S_settle 1 = .ok (.iload_n 1, 1) := by decide +kernel
theorem d_S_settle_2 : decode b_S_settle 2 = .ok (.invokevirtual 84, 3) := by decide +kernel
theorem d_S_settle_5 : decode b_S_settle 5 = .ok (.astore 4, 2) := by decide +kernel
theorem d_S_settle_7 : decode b_S_settle 7 = .ok (.aload 4, 2) := by decide +kernel
theorem d_S_settle_9 : decode b_S_settle 9 = .ok (.ifnull 30, 3) := by decide +kernel
theorem d_S_settle_12 : decode b_S_settle 12 = .ok (.aload 4, 2) := by decide +kernel
theorem d_S_settle_14 : decode b_S_settle 14 = .ok (.getfield 209, 3) := by decide +kernel
theorem d_S_settle_17 : decode b_S_settle 17 = .ok (.ifnull 22, 3) := by decide +kernel
theorem d_S_settle_20 : decode b_S_settle 20 = .ok (.aload 4, 2) := by decide +kernel
theorem d_S_settle_22 : decode b_S_settle 22 = .ok (.getfield 209, 3) := by decide +kernel
theorem d_S_settle_25 : decode b_S_settle 25 = .ok (.iload_n 2, 1) := by decide +kernel
theorem d_S_settle_26 : decode b_S_settle 26 = .ok (.invokevirtual 217, 3) := by decide +kernel
theorem d_S_settle_29 : decode b_S_settle 29 = .ok (.ifCond .eq 10, 3) := by decide +kernel
theorem d_S_settle_32 : decode b_S_settle 32 = .ok (.iload_n 3, 1) := by decide +kernel
theorem d_S_settle_33 : decode b_S_settle 33 = .ok (.invokestatic 139, 3) := by decide +kernel
theorem d_S_settle_36 : decode b_S_settle 36 = .ok (.ifCond .ne 11, 3) := by decide +kernel
theorem d_S_settle_39 : decode b_S_settle 39 = .ok (.new 81, 3) := by decide +kernel
theorem d_S_settle_42 : decode b_S_settle 42 = .ok (.dup, 1) := by decide +kernel
theorem d_S_settle_43 : decode b_S_settle 43 = .ok (.invokespecial 83, 3) := by decide +kernel
theorem d_S_settle_46 : decode b_S_settle 46 = .ok (.athrow, 1) := by decide +kernel
theorem d_S_settle_47 : decode b_S_settle 47 = .ok (.aload 4, 2) := by decide +kernel
theorem d_S_settle_49 : decode b_S_settle 49 = .ok (.aload 4, 2) := by decide +kernel
theorem d_S_settle_51 : decode b_S_settle 51 = .ok (.getfield 209, 3) := by decide +kernel
theorem d_S_settle_54 : decode b_S_settle 54 = .ok (.getfield 220, 3) := by decide +kernel
theorem d_S_settle_57 : decode b_S_settle 57 = .ok (.iload_n 2, 1) := by decide +kernel
theorem d_S_settle_58 : decode b_S_settle 58 = .ok (.iaload, 1) := by decide +kernel
theorem d_S_settle_59 : decode b_S_settle 59 = .ok (.iload_n 3, 1) := by decide +kernel
theorem d_S_settle_60 : decode b_S_settle 60 = .ok (.invokevirtual 121, 3) := by decide +kernel
theorem d_S_settle_63 : decode b_S_settle 63 = .ok (.aload 4, 2) := by decide +kernel
theorem d_S_settle_65 : decode b_S_settle 65 = .ok (.getfield 209, 3) := by decide +kernel
theorem d_S_settle_68 : decode b_S_settle 68 = .ok (.iload_n 2, 1) := by decide +kernel
theorem d_S_settle_69 : decode b_S_settle 69 = .ok (.invokevirtual 223, 3) := by decide +kernel
theorem d_S_settle_72 : decode b_S_settle 72 = .ok (.aload 4, 2) := by decide +kernel
theorem d_S_settle_74 : decode b_S_settle 74 = .ok (.getfield 209, 3) := by decide +kernel
theorem d_S_settle_77 : decode b_S_settle 77 = .ok (.getfield 226, 3) := by decide +kernel
theorem d_S_settle_80 : decode b_S_settle 80 = .ok (.ireturn, 1) := by decide +kernel
theorem d_K_markSettled_0 : decode b_K_markSettled 0 = .ok (.aload_n 0, 1) := by decide +kernel
theorem d_K_markSettled_1 : decode b_K_markSettled 1 = .ok (.iload_n 1, 1) := by decide +kernel
theorem d_K_markSettled_2 : decode b_K_markSettled 2 = .ok (.invokevirtual 35, 3) := by decide +kernel
theorem d_K_markSettled_5 : decode b_K_markSettled 5 = .ok (.ifCond .eq 29, 3) := by decide +kernel
theorem d_K_markSettled_8 : decode b_K_markSettled 8 = .ok (.aload_n 0, 1) := by decide +kernel
theorem d_K_markSettled_9 : decode b_K_markSettled 9 = .ok (.getfield 24, 3) := by decide +kernel
theorem d_K_markSettled_12 : decode b_K_markSettled 12 = .ok (.iload_n 1, 1) := by decide +kernel
theorem d_K_markSettled_13 : decode b_K_markSettled 13 = .ok (.baload, 1) := by decide +kernel
theorem d_K_markSettled_14 : decode b_K_markSettled 14 = .ok (.ifCond .ne 20, 3) := by decide +kernel
theorem d_K_markSettled_17 : decode b_K_markSettled 17 = .ok (.aload_n 0, 1) := by decide +kernel
theorem d_K_markSettled_18 : decode b_K_markSettled 18 = .ok (.getfield 24, 3) := by decide +kernel
theorem d_K_markSettled_21 : decode b_K_markSettled 21 = .ok (.iload_n 1, 1) := by decide +kernel
theorem d_K_markSettled_22 : decode b_K_markSettled 22 = .ok (.iconst 1, 1) := by decide +kernel
theorem d_K_markSettled_23 : decode b_K_markSettled 23 = .ok (.bastore, 1) := by decide +kernel
theorem d_K_markSettled_24 : decode b_K_markSettled 24 = .ok (.aload_n 0, 1) := by decide +kernel
theorem d_K_markSettled_25 : decode b_K_markSettled 25 = .ok (.dup, 1) := by decide +kernel
theorem d_K_markSettled_26 : decode b_K_markSettled 26 = .ok (.getfield 32, 3) := by decide +kernel
theorem d_K_markSettled_29 : decode b_K_markSettled 29 = .ok (.iconst 1, 1) := by decide +kernel
theorem d_K_markSettled_30 : decode b_K_markSettled 30 = .ok (.isub, 1) := by decide +kernel
theorem d_K_markSettled_31 : decode b_K_markSettled 31 = .ok (.putfield 32, 3) := by decide +kernel
theorem d_K_markSettled_34 : decode b_K_markSettled 34 = .ok (.return_, 1) := by decide +kernel
theorem d_S_total_0 : decode b_S_total 0 = .ok (.aload_n 0, 1) := by decide +kernel
theorem d_S_total_1 : decode b_S_total 1 = .ok (.iload_n 1, 1) := by decide +kernel
theorem d_S_total_2 : decode b_S_total 2 = .ok (.invokevirtual 248, 3) := by decide +kernel
theorem d_S_total_5 : decode b_S_total 5 = .ok (.astore 4, 2) := by decide +kernel
theorem d_S_total_7 : decode b_S_total 7 = .ok (.aload 4, 2) := by decide +kernel
theorem d_S_total_9 : decode b_S_total 9 = .ok (.ifnull 19, 3) := by decide +kernel
theorem d_S_total_12 : decode b_S_total 12 = .ok (.iload_n 2, 1) := by decide +kernel
theorem d_S_total_13 : decode b_S_total 13 = .ok (.invokestatic 73, 3) := by decide +kernel
theorem d_S_total_16 : decode b_S_total 16 = .ok (.ifCond .eq 12, 3) := by decide +kernel
theorem d_S_total_19 : decode b_S_total 19 = .ok (.iload_n 3, 1) := by decide +kernel
theorem d_S_total_20 : decode b_S_total 20 = .ok (.ifCond .lt 8, 3) := by decide +kernel
theorem d_S_total_23 : decode b_S_total 23 = .ok (.iload_n 3, 1) := by decide +kernel
theorem d_S_total_24 : decode b_S_total 24 = .ok (.iconst 4, 1) := by decide +kernel
theorem d_S_total_25 : decode b_S_total 25 = .ok (.if_icmp .lt 11, 3) := by decide +kernel
theorem d_S_total_28 : decode b_S_total 28 = .ok (.new 81, 3) := by decide +kernel
theorem d_S_total_31 : decode b_S_total 31 = .ok (.dup, 1) := by decide +kernel
theorem d_S_total_32 : decode b_S_total 32 = .ok (.invokespecial 83, 3) := by decide +kernel
theorem d_S_total_35 : decode b_S_total 35 = .ok (.athrow, 1) := by decide +kernel
theorem d_S_total_36 : decode b_S_total 36 = .ok (.iconst 0, 1) := by decide +kernel
theorem d_S_total_37 : decode b_S_total 37 = .ok (.istore 5, 2) := by decide +kernel
theorem d_S_total_39 : decode b_S_total 39 = .ok (.iconst 0, 1) := by decide +kernel
theorem d_S_total_40 : decode b_S_total 40 = .ok (.istore 6, 2) := by decide +kernel
theorem d_S_total_42 : decode b_S_total 42 = .ok (.ldc 69, 2) := by decide +kernel
theorem d_S_total_44 : decode b_S_total 44 = .ok (.istore 7, 2) := by decide +kernel
theorem d_S_total_46 : decode b_S_total 46 = .ok (.ldc 69, 2) := by decide +kernel
theorem d_S_total_48 : decode b_S_total 48 = .ok (.istore 8, 2) := by decide +kernel
theorem d_S_total_50 : decode b_S_total 50 = .ok (.aload_n 0, 1) := by decide +kernel
theorem d_S_total_51 : decode b_S_total 51 = .ok (.getfield 106, 3) := by decide +kernel
theorem d_S_total_54 : decode b_S_total 54 = .ok (.istore 9, 2) := by decide +kernel
theorem d_S_total_56 : decode b_S_total 56 = .ok (.iload 9, 2) := by decide +kernel
theorem d_S_total_58 : decode b_S_total 58 = .ok (.aload_n 0, 1) := by decide +kernel
theorem d_S_total_59 : decode b_S_total 59 = .ok (.getfield 106, 3) := by decide +kernel
theorem d_S_total_62 : decode b_S_total 62 = .ok (.aload_n 0, 1) := by decide +kernel
theorem d_S_total_63 : decode b_S_total 63 = .ok (.getfield 66, 3) := by decide +kernel
theorem d_S_total_66 : decode b_S_total 66 = .ok (.iadd, 1) := by decide +kernel
theorem d_S_total_67 : decode b_S_total 67 = .ok (.if_icmp .ge 96, 3) := by decide +kernel
theorem d_S_total_70 : decode b_S_total 70 = .ok (.aload_n 0, 1) := by decide +kernel
theorem d_S_total_71 : decode b_S_total 71 = .ok (.getfield 103, 3) := by decide +kernel
theorem d_S_total_74 : decode b_S_total 74 = .ok (.istore 10, 2) := by decide +kernel
theorem d_S_total_76 : decode b_S_total 76 = .ok (.iload 10, 2) := by decide +kernel
theorem d_S_total_78 : decode b_S_total 78 = .ok (.aload_n 0, 1) := by decide +kernel
theorem d_S_total_79 : decode b_S_total 79 = .ok (.getfield 103, 3) := by decide +kernel
theorem d_S_total_82 : decode b_S_total 82 = .ok (.aload_n 0, 1) := by decide +kernel
theorem d_S_total_83 : decode b_S_total 83 = .ok (.getfield 63, 3) := by decide +kernel
theorem d_S_total_86 : decode b_S_total 86 = .ok (.iadd, 1) := by decide +kernel
theorem d_S_total_87 : decode b_S_total 87 = .ok (.if_icmp .ge 70, 3) := by decide +kernel
theorem d_S_total_90 : decode b_S_total 90 = .ok (.aload 4, 2) := by decide +kernel
theorem d_S_total_92 : decode b_S_total 92 = .ok (.iload_n 2, 1) := by decide +kernel
theorem d_S_total_93 : decode b_S_total 93 = .ok (.iload 10, 2) := by decide +kernel
theorem d_S_total_95 : decode b_S_total 95 = .ok (.iload 9, 2) := by decide +kernel
theorem d_S_total_97 : decode b_S_total 97 = .ok (.invokestatic 117, 3) := by decide +kernel
theorem d_S_total_100 : decode b_S_total 100 = .ok (.laload, 1) := by decide +kernel
theorem d_S_total_101 : decode b_S_total 101 = .ok (.invokestatic 142, 3) := by decide +kernel
theorem d_S_total_104 : decode b_S_total 104 = .ok (.istore 11, 2) := by decide +kernel
theorem d_S_total_106 : decode b_S_total 106 = .ok (.iload 11, 2) := by decide +kernel
theorem d_S_total_108 : decode b_S_total 108 = .ok (.ldc 69, 2) := by decide +kernel
theorem d_S_total_110 : decode b_S_total 110 = .ok (.if_icmp .eq 41, 3) := by decide +kernel
theorem d_S_total_113 : decode b_S_total 113 = .ok (.iload 6, 2) := by decide +kernel
theorem d_S_total_115 : decode b_S_total 115 = .ok (.ifCond .ne 8, 3) := by decide +kernel
theorem d_S_total_118 : decode b_S_total 118 = .ok (.iload 11, 2) := by decide +kernel
theorem d_S_total_120 : decode b_S_total 120 = .ok (.goto 10, 3) := by decide +kernel
theorem d_S_total_123 : decode b_S_total 123 = .ok (.iload 7, 2) := by decide +kernel
theorem d_S_total_125 : decode b_S_total 125 = .ok (.iload 11, 2) := by decide +kernel
theorem d_S_total_127 : decode b_S_total 127 = .ok (.invokestatic 252, 3) := by decide +kernel
theorem d_S_total_130 : decode b_S_total 130 = .ok (.istore 7, 2) := by decide +kernel
theorem d_S_total_132 : decode b_S_total 132 = .ok (.iload 8, 2) := by decide +kernel
theorem d_S_total_134 : decode b_S_total 134 = .ok (.iload 11, 2) := by decide +kernel
theorem d_S_total_136 : decode b_S_total 136 = .ok (.invokestatic 257, 3) := by decide +kernel
theorem d_S_total_139 : decode b_S_total 139 = .ok (.istore 8, 2) := by decide +kernel
theorem d_S_total_141 : decode b_S_total 141 = .ok (.iload 5, 2) := by decide +kernel
theorem d_S_total_143 : decode b_S_total 143 = .ok (.iload 11, 2) := by decide +kernel
theorem d_S_total_145 : decode b_S_total 145 = .ok (.iadd, 1) := by decide +kernel
theorem d_S_total_146 : decode b_S_total 146 = .ok (.istore 5, 2) := by decide +kernel
theorem d_S_total_148 : decode b_S_total 148 = .ok (.iinc 6 1, 3) := by decide +kernel
theorem d_S_total_151 : decode b_S_total 151 = .ok (.iinc 10 1, 3) := by decide +kernel
theorem d_S_total_154 : decode b_S_total 154 = .ok (.goto (-78), 3) := by decide +kernel
theorem d_S_total_157 : decode b_S_total 157 = .ok (.iinc 9 1, 3) := by decide +kernel
theorem d_S_total_160 : decode b_S_total 160 = .ok (.goto (-104), 3) := by decide +kernel
theorem d_S_total_163 : decode b_S_total 163 = .ok (.iload_n 3, 1) := by decide +kernel
theorem d_S_total_164 : decode b_S_total 164 = .ok (.tableswitch 37 0 2 #[28, 31, 34], 28) := by decide +kernel
theorem d_S_total_192 : decode b_S_total 192 = .ok (.iload 5, 2) := by decide +kernel
theorem d_S_total_194 : decode b_S_total 194 = .ok (.ireturn, 1) := by decide +kernel
theorem d_S_total_195 : decode b_S_total 195 = .ok (.iload 6, 2) := by decide +kernel
theorem d_S_total_197 : decode b_S_total 197 = .ok (.ireturn, 1) := by decide +kernel
theorem d_S_total_198 : decode b_S_total 198 = .ok (.iload 7, 2) := by decide +kernel
theorem d_S_total_200 : decode b_S_total 200 = .ok (.ireturn, 1) := by decide +kernel
theorem d_S_total_201 : decode b_S_total 201 = .ok (.iload 8, 2) := by decide +kernel
theorem d_S_total_203 : decode b_S_total 203 = .ok (.ireturn, 1) := by decide +kernel
end
section
theorem d_M_init_0 : decode b_M_init 0 = .ok (.aload_n 0, 1) := by decide +kernel
theorem d_M_init_1 : decode b_M_init 1 = .ok (.invokespecial 1, 3) := by decide +kernel
theorem d_M_init_4 : decode b_M_init 4 = .ok (.aload_n 0, 1) := by decide +kernel
theorem d_M_init_5 : decode b_M_init 5 = .ok (.ldc 7, 2) := by decide +kernel
theorem d_M_init_7 : decode b_M_init 7 = .ok (.newarray .int, 2) := by decide +kernel
theorem d_M_init_9 : decode b_M_init 9 = .ok (.putfield 8, 3) := by decide +kernel
theorem d_M_init_12 : decode b_M_init 12 = .ok (.aload_n 0, 1) := by decide +kernel
theorem d_M_init_13 : decode b_M_init 13 = .ok (.ldc 7, 2) := by decide +kernel
theorem d_M_init_15 : decode b_M_init 15 = .ok (.newarray .int, 2) := by decide +kernel
theorem d_M_init_17 : decode b_M_init 17 = .ok (.putfield 14, 3) := by decide +kernel
theorem d_M_init_20 : decode b_M_init 20 = .ok (.aload_n 0, 1) := by decide +kernel
theorem d_M_init_21 : decode b_M_init 21 = .ok (.iconst 4, 1) := by decide +kernel
theorem d_M_init_22 : decode b_M_init 22 = .ok (.newarray .int, 2) := by decide +kernel
theorem d_M_init_24 : decode b_M_init 24 = .ok (.putfield 17, 3) := by decide +kernel
theorem d_M_init_27 : decode b_M_init 27 = .ok (.aload_n 0, 1) := by decide +kernel
theorem d_M_init_28 : decode b_M_init 28 = .ok (.bipush 24, 2) := by decide +kernel
theorem d_M_init_30 : decode b_M_init 30 = .ok (.newarray .int, 2) := by decide +kernel
theorem d_M_init_32 : decode b_M_init 32 = .ok (.putfield 20, 3) := by decide +kernel
theorem d_M_init_35 : decode b_M_init 35 = .ok (.aload_n 0, 1) := by decide +kernel
theorem d_M_init_36 : decode b_M_init 36 = .ok (.bipush 24, 2) := by decide +kernel
theorem d_M_init_38 : decode b_M_init 38 = .ok (.newarray .int, 2) := by decide +kernel
theorem d_M_init_40 : decode b_M_init 40 = .ok (.putfield 23, 3) := by decide +kernel
theorem d_M_init_43 : decode b_M_init 43 = .ok (.aload_n 0, 1) := by decide +kernel
theorem d_M_init_44 : decode b_M_init 44 = .ok (.iconst 1, 1) := by decide +kernel
theorem d_M_init_45 : decode b_M_init 45 = .ok (.putfield 26, 3) := by decide +kernel
theorem d_M_init_48 : decode b_M_init 48 = .ok (.aload_n 0, 1) := by decide +kernel
theorem d_M_init_49 : decode b_M_init 49 = .ok (.iconst 4, 1) := by decide +kernel
theorem d_M_init_50 : decode b_M_init 50 = .ok (.newarray .boolean, 2) := by decide +kernel
theorem d_M_init_52 : decode b_M_init 52 = .ok (.putfield 30, 3) := by decide +kernel
theorem d_M_init_55 : decode b_M_init 55 = .ok (.aload_n 0, 1) := by decide +kernel
theorem d_M_init_56 : decode b_M_init 56 = .ok (.iconst 4, 1) := by decide +kernel
theorem d_M_init_57 : decode b_M_init 57 = .ok (.newarray .int, 2) := by decide +kernel
theorem d_M_init_59 : decode b_M_init 59 = .ok (.putfield 34, 3) := by decide +kernel
theorem d_M_init_62 : decode b_M_init 62 = .ok (.aload_n 0, 1) := by decide +kernel
theorem d_M_init_63 : decode b_M_init 63 = .ok (.iconst 4, 1) := by decide +kernel
theorem d_M_init_64 : decode b_M_init 64 = .ok (.newarray .int, 2) := by decide +kernel
theorem d_M_init_66 : decode b_M_init 66 = .ok (.putfield 37, 3) := by decide +kernel
theorem d_M_init_69 : decode b_M_init 69 = .ok (.aload_n 0, 1) := by decide +kernel
theorem d_M_init_70 : decode b_M_init 70 = .ok (.sipush 16384, 3) := by decide +kernel
theorem d_M_init_73 : decode b_M_init 73 = .ok (.newarray .int, 2) := by decide +kernel
theorem d_M_init_75 : decode b_M_init 75 = .ok (.putfield 40, 3) := by decide +kernel
theorem d_M_init_78 : decode b_M_init 78 = .ok (.aload_n 0, 1) := by decide +kernel
theorem d_M_init_79 : decode b_M_init 79 = .ok (.sipush 16384, 3) := by decide +kernel
theorem d_M_init_82 : decode b_M_init 82 = .ok (.newarray .int, 2) := by decide +kernel
theorem d_M_init_84 : decode b_M_init 84 = .ok (.putfield 43, 3) := by decide +kernel
theorem d_M_init_87 : decode b_M_init 87 = .ok (.aload_n 0, 1) := by decide +kernel
theorem d_M_init_88 : decode b_M_init 88 = .ok (.sipush 16384, 3) := by decide +kernel
theorem d_M_init_91 : decode b_M_init 91 = .ok (.newarray .int, 2) := by decide +kernel
theorem d_M_init_93 : decode b_M_init 93 = .ok (.putfield 46, 3) := by decide +kernel
theorem d_M_init_96 : decode b_M_init 96 = .ok (.aload_n 0, 1) := by decide +kernel
theorem d_M_init_97 : decode b_M_init 97 = .ok (.sipush 16384, 3) := by decide +kernel
theorem d_M_init_100 : decode b_M_init 100 = .ok (.newarray .int, 2) := by decide +kernel
theorem d_M_init_102 : decode b_M_init 102 = .ok (.putfield 49, 3) := by decide +kernel
theorem d_M_init_105 : decode b_M_init 105 = .ok (.aload_n 0, 1) := by decide +kernel
theorem d_M_init_106 : decode b_M_init 106 = .ok (.iconst 4, 1) := by decide +kernel
theorem d_M_init_107 : decode b_M_init 107 = .ok (.newarray .int, 2) := by decide +kernel
theorem d_M_init_109 : decode b_M_init 109 = .ok (.putfield 52, 3) := by decide +kernel
theorem d_M_init_112 : decode b_M_init 112 = .ok (.aload_n 0, 1) := by decide +kernel
theorem d_M_init_113 : decode b_M_init 113 = .ok (.sipush 16384, 3) := by decide +kernel
theorem d_M_init_116 : decode b_M_init 116 = .ok (.newarray .boolean, 2) := by decide +kernel
theorem d_M_init_118 : decode b_M_init 118 = .ok (.putfield 55, 3) := by decide +kernel
theorem d_M_init_121 : decode b_M_init 121 = .ok (.aload_n 0, 1) := by decide +kernel
theorem d_M_init_122 : decode b_M_init 122 = .ok (.bipush 32, 2) := by decide +kernel
theorem d_M_init_124 : decode b_M_init 124 = .ok (.putfield 58, 3) := by decide +kernel
theorem d_M_init_127 : decode b_M_init 127 = .ok (.aload_n 0, 1) := by decide +kernel
theorem d_M_init_128 : decode b_M_init 128 = .ok (.bipush 32, 2) := by decide +kernel
theorem d_M_init_130 : decode b_M_init 130 = .ok (.putfield 61, 3) := by decide +kernel
theorem d_M_init_133 : decode b_M_init 133 = .ok (.aload_n 0, 1) := by decide +kernel
theorem d_M_init_134 : decode b_M_init 134 = .ok (.bipush 6, 2) := by decide +kernel
theorem d_M_init_136 : decode b_M_init 136 = .ok (.newarray .int, 2) := by decide +kernel
theorem d_M_init_138 : decode b_M_init 138 = .ok (.putfield 64, 3) := by decide +kernel
theorem d_M_init_141 : decode b_M_init 141 = .ok (.aload_n 0, 1) := by decide +kernel
theorem d_M_init_142 : decode b_M_init 142 = .ok (.bipush 6, 2) := by decide +kernel
theorem d_M_init_144 : decode b_M_init 144 = .ok (.newarray .int, 2) := by decide +kernel
theorem d_M_init_146 : decode b_M_init 146 = .ok (.putfield 67, 3) := by decide +kernel
theorem d_M_init_149 : decode b_M_init 149 = .ok (.aload_n 0, 1) := by decide +kernel
theorem d_M_init_150 : decode b_M_init 150 = .ok (.bipush 8, 2) := by decide +kernel
theorem d_M_init_152 : decode b_M_init 152 = .ok (.newarray .int, 2) := by decide +kernel
theorem d_M_init_154 : decode b_M_init 154 = .ok (.putfield 70, 3) := by decide +kernel
theorem d_M_init_157 : decode b_M_init 157 = .ok (.aload_n 0, 1) := by decide +kernel
theorem d_M_init_158 : decode b_M_init 158 = .ok (.bipush 8, 2) := by decide +kernel
theorem d_M_init_160 : decode b_M_init 160 = .ok (.newarray .int, 2) := by decide +kernel
theorem d_M_init_162 : decode b_M_init 162 = .ok (.putfield 73, 3) := by decide +kernel
theorem d_M_init_165 : decode b_M_init 165 = .ok (.aload_n 0, 1) := by decide +kernel
theorem d_M_init_166 : decode b_M_init 166 = .ok (.bipush 26, 2) := by decide +kernel
theorem d_M_init_168 : decode b_M_init 168 = .ok (.newarray .int, 2) := by decide +kernel
theorem d_M_init_170 : decode b_M_init 170 = .ok (.putfield 76, 3) := by decide +kernel
theorem d_M_init_173 : decode b_M_init 173 = .ok (.aload_n 0, 1) := by decide +kernel
theorem d_M_init_174 : decode b_M_init 174 = .ok (.bipush 26, 2) := by decide +kernel
theorem d_M_init_176 : decode b_M_init 176 = .ok (.newarray .int, 2) := by decide +kernel
theorem d_M_init_178 : decode b_M_init 178 = .ok (.putfield 79, 3) := by decide +kernel
theorem d_M_init_181 : decode b_M_init 181 = .ok (.aload_n 0, 1) := by decide +kernel
theorem d_M_init_182 : decode b_M_init 182 = .ok (.ldc 82, 2) := by decide +kernel
theorem d_M_init_184 : decode b_M_init 184 = .ok (.newarray .int, 2) := by decide +kernel
theorem d_M_init_186 : decode b_M_init 186 = .ok (.putfield 83, 3) := by decide +kernel
theorem d_M_init_189 : decode b_M_init 189 = .ok (.aload_n 0, 1) := by decide +kernel
theorem d_M_init_190 : decode b_M_init 190 = .ok (.sipush 4096, 3) := by decide +kernel
theorem d_M_init_193 : decode b_M_init 193 = .ok (.newarray .int, 2) := by decide +kernel
theorem d_M_init_195 : decode b_M_init 195 = .ok (.putfield 86, 3) := by decide +kernel
theorem d_M_init_198 : decode b_M_init 198 = .ok (.iconst 0, 1) := by decide +kernel
theorem d_M_init_199 : decode b_M_init 199 = .ok (.istore_n 1, 1) := by decide +kernel
theorem d_M_init_200 : decode b_M_init 200 = .ok (.iload_n 1, 1) := by decide +kernel
theorem d_M_init_201 : decode b_M_init 201 = .ok (.ldc 7, 2) := by decide +kernel
theorem d_M_init_203 : decode b_M_init 203 = .ok (.if_icmp .ge 24, 3) := by decide +kernel
theorem d_M_init_206 : decode b_M_init 206 = .ok (.aload_n 0, 1) := by decide +kernel
theorem d_M_init_207 : decode b_M_init 207 = .ok (.getfield 8, 3) := by decide +kernel
theorem d_M_init_210 : decode b_M_init 210 = .ok (.iload_n 1, 1) := by decide +kernel
theorem d_M_init_211 : decode b_M_init 211 = .ok (.ldc 89, 2) := by decide +kernel
theorem d_M_init_213 : decode b_M_init 213 = .ok (.iastore, 1) := by decide +kernel
theorem d_M_init_214 : decode b_M_init 214 = .ok (.aload_n 0, 1) := by decide +kernel
theorem d_M_init_215 : decode b_M_init 215 = .ok (.getfield 14, 3) := by decide +kernel
theorem d_M_init_218 : decode b_M_init 218 = .ok (.iload_n 1, 1) := by decide +kernel
theorem d_M_init_219 : decode b_M_init 219 = .ok (.iconst (-1), 1) := by decide +kernel
theorem d_M_init_220 : decode b_M_init 220 = .ok (.iastore, 1) := by decide +kernel
theorem d_M_init_221 : decode b_M_init 221 = .ok (.iinc 1 1, 3) := by decide +kernel
theorem d_M_init_224 : decode b_M_init 224 = .ok (.goto (-24), 3) := by decide +kernel
theorem d_M_init_227 : decode b_M_init 227 = .ok (.iconst 0, 1) := by decide +kernel
theorem d_M_init_228 : decode b_M_init 228 = .ok (.istore_n 1, 1) := by decide +kernel
theorem d_M_init_229 : decode b_M_init 229 = .ok (.iload_n 1, 1) := by decide +kernel
theorem d_M_init_230 : decode b_M_init 230 = .ok (.iconst 4, 1) := by decide +kernel
theorem d_M_init_231 : decode b_M_init 231 = .ok (.if_icmp .ge 16, 3) := by decide +kernel
theorem d_M_init_234 : decode b_M_init 234 = .ok (.aload_n 0, 1) := by decide +kernel
theorem d_M_init_235 : decode b_M_init 235 = .ok (.getfield 37, 3) := by decide +kernel
theorem d_M_init_238 : decode b_M_init 238 = .ok (.iload_n 1, 1) := by decide +kernel
theorem d_M_init_239 : decode b_M_init 239 = .ok (.iconst (-1), 1) := by decide +kernel
theorem d_M_init_240 : decode b_M_init 240 = .ok (.iastore, 1) := by decide +kernel
theorem d_M_init_241 : decode b_M_init 241 = .ok (.iinc 1 1, 3) := by decide +kernel
theorem d_M_init_244 : decode b_M_init 244 = .ok (.goto (-15), 3) := by decide +kernel
theorem d_M_init_247 : decode b_M_init 247 = .ok (.iconst 0, 1) := by decide +kernel
theorem d_M_init_248 : decode b_M_init 248 = .ok (.istore_n 1, 1) := by decide +kernel
theorem d_M_init_249 : decode b_M_init 249 = .ok (.iload_n 1, 1) := by decide +kernel
theorem d_M_init_250 : decode b_M_init 250 = .ok (.bipush 8, 2) := by decide +kernel
theorem d_M_init_252 : decode b_M_init 252 = .ok (.if_icmp .ge 25, 3) := by decide +kernel
theorem d_M_init_255 : decode b_M_init 255 = .ok (.aload_n 0, 1) := by decide +kernel
theorem d_M_init_256 : decode b_M_init 256 = .ok (.getfield 70, 3) := by decide +kernel
theorem d_M_init_259 : decode b_M_init 259 = .ok (.iload_n 1, 1) := by decide +kernel
theorem d_M_init_260 : decode b_M_init 260 = .ok (.ldc 89, 2) := by decide +kernel
theorem d_M_init_262 : decode b_M_init 262 = .ok (.iastore, 1) := by decide +kernel
theorem d_M_init_263 : decode b_M_init 263 = .ok (.aload_n 0, 1) := by decide +kernel
theorem d_M_init_264 : decode b_M_init 264 = .ok (.getfield 73, 3) := by decide +kernel
theorem d_M_init_267 : decode b_M_init 267 = .ok (.iload_n 1, 1) := by decide +kernel
theorem d_M_init_268 : decode b_M_init 268 = .ok (.ldc 89, 2) := by decide +kernel
theorem d_M_init_270 : decode b_M_init 270 = .ok (.iastore, 1) := by decide +kernel
theorem d_M_init_271 : decode b_M_init 271 = .ok (.iinc 1 1, 3) := by decide +kernel
theorem d_M_init_274 : decode b_M_init 274 = .ok (.goto (-25), 3) := by decide +kernel
theorem d_M_init_277 : decode b_M_init 277 = .ok (.aload_n 0, 1) := by decide +kernel
theorem d_M_init_278 : decode b_M_init 278 = .ok (.getfield 20, 3) := by decide +kernel
theorem d_M_init_281 : decode b_M_init 281 = .ok (.iconst 0, 1) := by decide +kernel
theorem d_M_init_282 : decode b_M_init 282 = .ok (.iconst (-1), 1) := by decide +kernel
theorem d_M_init_283 : decode b_M_init 283 = .ok (.iastore, 1) := by decide +kernel
theorem d_M_init_284 : decode b_M_init 284 = .ok (.aload_n 0, 1) := by decide +kernel
theorem d_M_init_285 : decode b_M_init 285 = .ok (.getfield 23, 3) := by decide +kernel
theorem d_M_init_288 : decode b_M_init 288 = .ok (.iconst 0, 1) := by decide +kernel
theorem d_M_init_289 : decode b_M_init 289 = .ok (.iconst (-1), 1) := by decide +kernel
theorem d_M_init_290 : decode b_M_init 290 = .ok (.iastore, 1) := by decide +kernel
theorem d_M_init_291 : decode b_M_init 291 = .ok (.aload_n 0, 1) := by decide +kernel
theorem d_M_init_292 : decode b_M_init 292 = .ok (.getfield 30, 3) := by decide +kernel
theorem d_M_init_295 : decode b_M_init 295 = .ok (.iconst 0, 1) := by decide +kernel
theorem d_M_init_296 : decode b_M_init 296 = .ok (.iconst 1, 1) := by decide +kernel
theorem d_M_init_297 : decode b_M_init 297 = .ok (.bastore, 1) := by decide +kernel
theorem d_M_init_298 : decode b_M_init 298 = .ok (.return_, 1) := by decide +kernel
theorem d_M_thrown_0 : decode b_M_thrown 0 = .ok (.aload_n 0, 1) := by decide +kernel
theorem d_M_thrown_1 : decode b_M_thrown 1 = .ok (.getfield 90, 3) := by decide +kernel
theorem d_M_thrown_4 : decode b_M_thrown 4 = .ok (.ireturn, 1) := by decide +kernel
theorem d_M_kind_0 : decode b_M_kind 0 = .ok (.aload_n 0, 1) := by decide +kernel
theorem d_M_kind_1 : decode b_M_kind 1 = .ok (.iconst 0, 1) := by decide +kernel
theorem d_M_kind_2 : decode b_M_kind 2 = .ok (.putfield 90, 3) := by decide +kernel
theorem d_M_kind_5 : decode b_M_kind 5 = .ok (.iload_n 1, 1) := by decide +kernel
theorem d_M_kind_6 : decode b_M_kind 6 = .ok (.invokestatic 102, 3) := by decide +kernel
theorem d_M_kind_9 : decode b_M_kind 9 = .ok (.ifCond .eq 12, 3) := by decide +kernel
theorem d_M_kind_12 : decode b_M_kind 12 = .ok (.iload_n 2, 1) := by decide +kernel
theorem d_M_kind_13 : decode b_M_kind 13 = .ok (.ifCond .lt 8, 3) := by decide +kernel
theorem d_M_kind_16 : decode b_M_kind 16 = .ok (.iload_n 2, 1) := by decide +kernel
theorem d_M_kind_17 : decode b_M_kind 17 = .ok (.iconst 3, 1) := by decide +kernel
theorem d_M_kind_18 : decode b_M_kind 18 = .ok (.if_icmp .le 5, 3) := by decide +kernel
theorem d_M_kind_21 : decode b_M_kind 21 = .ok (.iconst 0, 1) := by decide +kernel
theorem d_M_kind_22 : decode b_M_kind 22 = .ok (.ireturn, 1) := by decide +kernel
theorem d_M_kind_23 : decode b_M_kind 23 = .ok (.aload_n 0, 1) := by decide +kernel
theorem d_M_kind_24 : decode b_M_kind 24 = .ok (.getfield 17, 3) := by decide +kernel
theorem d_M_kind_27 : decode b_M_kind 27 = .ok (.iload_n 1, 1) := by decide +kernel
theorem d_M_kind_28 : decode b_M_kind 28 = .ok (.iload_n 2, 1) := by decide +kernel
theorem d_M_kind_29 : decode b_M_kind 29 = .ok (.iastore, 1) := by decide +kernel
theorem d_M_kind_30 : decode b_M_kind 30 = .ok (.iconst 1, 1) := by decide +kernel
theorem d_M_kind_31 : decode b_M_kind 31 = .ok (.ireturn, 1) := by decide +kernel
theorem d_M_isLayer_0 : decode b_M_isLayer 0 = .ok (.iload_n 0, 1) := by decide +kernel
theorem d_M_isLayer_1 : decode b_M_isLayer 1 = .ok (.ifCond .lt 12, 3) := by decide +kernel
theorem d_M_isLayer_4 : decode b_M_isLayer 4 = .ok (.iload_n 0, 1) := by decide +kernel
theorem d_M_isLayer_5 : decode b_M_isLayer 5 = .ok (.iconst 4, 1) := by decide +kernel
theorem d_M_isLayer_6 : decode b_M_isLayer 6 = .ok (.if_icmp .ge 7, 3) := by decide +kernel
theorem d_M_isLayer_9 : decode b_M_isLayer 9 = .ok (.iconst 1, 1) := by decide +kernel
theorem d_M_isLayer_10 : decode b_M_isLayer 10 = .ok (.goto 4, 3) := by decide +kernel
theorem d_M_isLayer_13 : decode b_M_isLayer 13 = .ok (.iconst 0, 1) := by decide +kernel
theorem d_M_isLayer_14 : decode b_M_isLayer 14 = .ok (.ireturn, 1) := by decide +kernel
theorem d_M_branch_0 : decode b_M_branch 0 = .ok (.aload_n 0, 1) := by decide +kernel
theorem d_M_branch_1 : decode b_M_branch 1 = .ok (.iload_n 1, 1) := by decide +kernel
theorem d_M_branch_2 : decode b_M_branch 2 = .ok (.ifCond .lt 16, 3) := by decide +kernel
theorem d_M_branch_5 : decode b_M_branch 5 = .ok (.iload_n 1, 1) := by decide +kernel
theorem d_M_branch_6 : decode b_M_branch 6 = .ok (.iconst 3, 1) := by decide +kernel
theorem d_M_branch_7 : decode b_M_branch 7 = .ok (.if_icmp .gt 11, 3) := by decide +kernel
theorem d_M_branch_10 : decode b_M_branch 10 = .ok (.aload_n 0, 1) := by decide +kernel
theorem d_M_branch_11 : decode b_M_branch 11 = .ok (.iload_n 2, 1) := by decide +kernel
theorem d_M_branch_12 : decode b_M_branch 12 = .ok (.invokevirtual 93, 3) := by decide +kernel
theorem d_M_branch_15 : decode b_M_branch 15 = .ok (.ifCond .ne 7, 3) := by decide +kernel
theorem d_M_branch_18 : decode b_M_branch 18 = .ok (.iconst 1, 1) := by decide +kernel
theorem d_M_branch_19 : decode b_M_branch 19 = .ok (.goto 17, 3) := by decide +kernel
theorem d_M_branch_22 : decode b_M_branch 22 = .ok (.aload_n 0, 1) := by decide +kernel
theorem d_M_branch_23 : decode b_M_branch 23 = .ok (.getfield 30, 3) := by decide +kernel
theorem d_M_branch_26 : decode b_M_branch 26 = .ok (.iload_n 1, 1) := by decide +kernel
theorem d_M_branch_27 : decode b_M_branch 27 = .ok (.baload, 1) := by decide +kernel
theorem d_M_branch_28 : decode b_M_branch 28 = .ok (.ifCond .eq 7, 3) := by decide +kernel
theorem d_M_branch_31 : decode b_M_branch 31 = .ok (.iconst 2, 1) := by decide +kernel
theorem d_M_branch_32 : decode b_M_branch 32 = .ok (.goto 4, 3) := by decide +kernel
theorem d_M_branch_35 : decode b_M_branch 35 = .ok (.iconst 0, 1) := by decide +kernel
theorem d_M_branch_36 : decode b_M_branch 36 = .ok (.putfield 90, 3) := by decide +kernel
theorem d_M_branch_39 : decode b_M_branch 39 = .ok (.aload_n 0, 1) := by decide +kernel
theorem d_M_branch_40 : decode b_M_branch 40 = .ok (.getfield 90, 3) := by decide +kernel
theorem d_M_branch_43 : decode b_M_branch 43 = .ok (.ifCond .le 4, 3) := by decide +kernel
theorem d_M_branch_46 : decode b_M_branch 46 = .ok (.return_, 1) := by decide +kernel
theorem d_M_branch_47 : decode b_M_branch 47 = .ok (.aload_n 0, 1) := by decide +kernel
theorem d_M_branch_48 : decode b_M_branch 48 = .ok (.getfield 30, 3) := by decide +kernel
theorem d_M_branch_51 : decode b_M_branch 51 = .ok (.iload_n 1, 1) := by decide +kernel
theorem d_M_branch_52 : decode b_M_branch 52 = .ok (.iconst 1, 1) := by decide +kernel
theorem d_M_branch_53 : decode b_M_branch 53 = .ok (.bastore, 1) := by decide +kernel
theorem d_M_branch_54 : decode b_M_branch 54 = .ok (.aload_n 0, 1) := by decide +kernel
theorem d_M_branch_55 : decode b_M_branch 55 = .ok (.getfield 34, 3) := by decide +kernel
theorem d_M_branch_58 : decode b_M_branch 58 = .ok (.iload_n 1, 1) := by decide +kernel
theorem d_M_branch_59 : decode b_M_branch 59 = .ok (.iload_n 2, 1) := by decide +kernel
theorem d_M_branch_60 : decode b_M_branch 60 = .ok (.iastore, 1) := by decide +kernel
theorem d_M_branch_61 : decode b_M_branch 61 = .ok (.aload_n 0, 1) := by decide +kernel
theorem d_M_branch_62 : decode b_M_branch 62 = .ok (.getfield 37, 3) := by decide +kernel
theorem d_M_branch_65 : decode b_M_branch 65 = .ok (.iload_n 1, 1) := by decide +kernel
theorem d_M_branch_66 : decode b_M_branch 66 = .ok (.iconst (-1), 1) := by decide +kernel
theorem d_M_branch_67 : decode b_M_branch 67 = .ok (.iastore, 1) := by decide +kernel
theorem d_M_branch_68 : decode b_M_branch 68 = .ok (.aload_n 0, 1) := by decide +kernel
theorem d_M_branch_69 : decode b_M_branch 69 = .ok (.getfield 52, 3) := by decide +kernel
theorem d_M_branch_72 : decode b_M_branch 72 = .ok (.iload_n 1, 1) := by decide +kernel
theorem d_M_branch_73 : decode b_M_branch 73 = .ok (.iconst 0, 1) := by decide +kernel
theorem d_M_branch_74 : decode b_M_branch 74 = .ok (.iastore, 1) := by decide +kernel
theorem d_M_branch_75 : decode b_M_branch 75 = .ok (.aload_n 0, 1) := by decide +kernel
theorem d_M_branch_76 : decode b_M_branch 76 = .ok (.bipush 24, 2) := by decide +kernel
theorem d_M_branch_78 : decode b_M_branch 78 = .ok (.iload_n 1, 1) := by decide +kernel
theorem d_M_branch_79 : decode b_M_branch 79 = .ok (.iadd, 1) := by decide +kernel
theorem d_M_branch_80 : decode b_M_branch 80 = .ok (.iload_n 2, 1) := by decide +kernel
theorem d_M_branch_81 : decode b_M_branch 81 = .ok (.invokevirtual 105, 3) := by decide +kernel
theorem d_M_branch_84 : decode b_M_branch 84 = .ok (.return_, 1) := by decide +kernel
theorem d_M_isCommit_0 : decode b_M_isCommit 0 = .ok (.iload_n 1, 1) := by decide +kernel
theorem d_M_isCommit_1 : decode b_M_isCommit 1 = .ok (.ifCond .lt 15, 3) := by decide +kernel
theorem d_M_isCommit_4 : decode b_M_isCommit 4 = .ok (.iload_n 1, 1) := by decide +kernel
theorem d_M_isCommit_5 : decode b_M_isCommit 5 = .ok (.aload_n 0, 1) := by decide +kernel
theorem d_M_isCommit_6 : decode b_M_isCommit 6 = .ok (.getfield 26, 3) := by decide +kernel
theorem d_M_isCommit_9 : decode b_M_isCommit 9 = .ok (.if_icmp .ge 7, 3) := by decide +kernel
theorem d_M_isCommit_12 : decode b_M_isCommit 12 = .ok (.iconst 1, 1) := by decide +kernel
theorem d_M_isCommit_13 : decode b_M_isCommit 13 = .ok (.goto 4, 3) := by decide +kernel
theorem d_M_isCommit_16 : decode b_M_isCommit 16 = .ok (.iconst 0, 1) := by decide +kernel
theorem d_M_isCommit_17 : decode b_M_isCommit 17 = .ok (.ireturn, 1) := by decide +kernel
theorem d_M_become_0 : decode b_M_become 0 = .ok (.iconst 0, 1) := by decide +kernel
theorem d_M_become_1 : decode b_M_become 1 = .ok (.istore_n 3, 1) := by decide +kernel
theorem d_M_become_2 : decode b_M_become 2 = .ok (.iload_n 3, 1) := by decide +kernel
theorem d_M_become_3 : decode b_M_become 3 = .ok (.sipush 4096, 3) := by decide +kernel
theorem d_M_become_6 : decode b_M_become 6 = .ok (.if_icmp .ge 57, 3) := by decide +kernel
theorem d_M_become_9 : decode b_M_become 9 = .ok (.aload_n 0, 1) := by decide +kernel
theorem d_M_become_10 : decode b_M_become 10 = .ok (.getfield 8, 3) := by decide +kernel
theorem d_M_become_13 : decode b_M_become 13 = .ok (.sipush 4096, 3) := by decide +kernel
theorem d_M_become_16 : decode b_M_become 16 = .ok (.iload_n 1, 1) := by decide +kernel
theorem d_M_become_17 : decode b_M_become 17 = .ok (.imul, 1) := by decide +kernel
theorem d_M_become_18 : decode b_M_become 18 = .ok (.iload_n 3, 1) := by decide +kernel
theorem d_M_become_19 : decode b_M_become 19 = .ok (.iadd, 1) := by decide +kernel
theorem d_M_become_20 : decode b_M_become 20 = .ok (.aload_n 0, 1) := by decide +kernel
theorem d_M_become_21 : decode b_M_become 21 = .ok (.getfield 8, 3) := by decide +kernel
theorem d_M_become_24 : decode b_M_become 24 = .ok (.sipush 4096, 3) := by decide +kernel
theorem d_M_become_27 : decode b_M_become 27 = .ok (.iload_n 2, 1) := by decide +kernel
theorem d_M_become_28 : decode b_M_become 28 = .ok (.imul, 1) := by decide +kernel
theorem d_M_become_29 : decode b_M_become 29 = .ok (.iload_n 3, 1) := by decide +kernel
theorem d_M_become_30 : decode b_M_become 30 = .ok (.iadd, 1) := by decide +kernel
theorem d_M_become_31 : decode b_M_become 31 = .ok (.iaload, 1) := by decide +kernel
theorem d_M_become_32 : decode b_M_become 32 = .ok (.iastore, 1) := by decide +kernel
theorem d_M_become_33 : decode b_M_become 33 = .ok (.aload_n 0, 1) := by decide +kernel
theorem d_M_become_34 : decode b_M_become 34 = .ok (.getfield 14, 3) := by decide +kernel
theorem d_M_become_37 : decode b_M_become 37 = .ok (.sipush 4096, 3) := by decide +kernel
theorem d_M_become_40 : decode b_M_become 40 = .ok (.iload_n 1, 1) := by decide +kernel
theorem d_M_become_41 : decode b_M_become 41 = .ok (.imul, 1) := by decide +kernel
theorem d_M_become_42 : decode b_M_become 42 = .ok (.iload_n 3, 1) := by decide +kernel
theorem d_M_become_43 : decode b_M_become 43 = .ok (.iadd, 1) := by decide +kernel
theorem d_M_become_44 : decode b_M_become 44 = .ok (.aload_n 0, 1) := by decide +kernel
theorem d_M_become_45 : decode b_M_become 45 = .ok (.getfield 14, 3) := by decide +kernel
theorem d_M_become_48 : decode b_M_become 48 = .ok (.sipush 4096, 3) := by decide +kernel
theorem d_M_become_51 : decode b_M_become 51 = .ok (.iload_n 2, 1) := by decide +kernel
theorem d_M_become_52 : decode b_M_become 52 = .ok (.imul, 1) := by decide +kernel
theorem d_M_become_53 : decode b_M_become 53 = .ok (.iload_n 3, 1) := by decide +kernel
theorem d_M_become_54 : decode b_M_become 54 = .ok (.iadd, 1) := by decide +kernel
theorem d_M_become_55 : decode b_M_become 55 = .ok (.iaload, 1) := by decide +kernel
theorem d_M_become_56 : decode b_M_become 56 = .ok (.iastore, 1) := by decide +kernel
theorem d_M_become_57 : decode b_M_become 57 = .ok (.iinc 3 1, 3) := by decide +kernel
theorem d_M_become_60 : decode b_M_become 60 = .ok (.goto (-58), 3) := by decide +kernel
theorem d_M_become_63 : decode b_M_become 63 = .ok (.return_, 1) := by decide +kernel
theorem d_M_drop_0 : decode b_M_drop 0 = .ok (.aload_n 0, 1) := by decide +kernel
theorem d_M_drop_1 : decode b_M_drop 1 = .ok (.iconst 0, 1) := by decide +kernel
theorem d_M_drop_2 : decode b_M_drop 2 = .ok (.putfield 90, 3) := by decide +kernel
theorem d_M_drop_5 : decode b_M_drop 5 = .ok (.aload_n 0, 1) := by decide +kernel
theorem d_M_drop_6 : decode b_M_drop 6 = .ok (.iload_n 1, 1) := by decide +kernel
theorem d_M_drop_7 : decode b_M_drop 7 = .ok (.invokevirtual 97, 3) := by decide +kernel
theorem d_M_drop_10 : decode b_M_drop 10 = .ok (.istore_n 2, 1) := by decide +kernel
theorem d_M_drop_11 : decode b_M_drop 11 = .ok (.iload_n 2, 1) := by decide +kernel
theorem d_M_drop_12 : decode b_M_drop 12 = .ok (.ifCond .eq 10, 3) := by decide +kernel
theorem d_M_drop_15 : decode b_M_drop 15 = .ok (.aload_n 0, 1) := by decide +kernel
theorem d_M_drop_16 : decode b_M_drop 16 = .ok (.getfield 30, 3) := by decide +kernel
theorem d_M_drop_19 : decode b_M_drop 19 = .ok (.iload_n 1, 1) := by decide +kernel
theorem d_M_drop_20 : decode b_M_drop 20 = .ok (.iconst 0, 1) := by decide +kernel
theorem d_M_drop_21 : decode b_M_drop 21 = .ok (.bastore, 1) := by decide +kernel
theorem d_M_drop_22 : decode b_M_drop 22 = .ok (.iload_n 2, 1) := by decide +kernel
theorem d_M_drop_23 : decode b_M_drop 23 = .ok (.ireturn, 1) := by decide +kernel
theorem d_M_isBranch_0 : decode b_M_isBranch 0 = .ok (.iload_n 1, 1) := by decide +kernel
theorem d_M_isBranch_1 : decode b_M_isBranch 1 = .ok (.ifCond .lt 21, 3) := by decide +kernel
theorem d_M_isBranch_4 : decode b_M_isBranch 4 = .ok (.iload_n 1, 1) := by decide +kernel
theorem d_M_isBranch_5 : decode b_M_isBranch 5 = .ok (.iconst 4, 1) := by decide +kernel
theorem d_M_isBranch_6 : decode b_M_isBranch 6 = .ok (.if_icmp .ge 16, 3) := by decide +kernel
theorem d_M_isBranch_9 : decode b_M_isBranch 9 = .ok (.aload_n 0, 1) := by decide +kernel
theorem d_M_isBranch_10 : decode b_M_isBranch 10 = .ok (.getfield 30, 3) := by decide +kernel
theorem d_M_isBranch_13 : decode b_M_isBranch 13 = .ok (.iload_n 1, 1) := by decide +kernel
theorem d_M_isBranch_14 : decode b_M_isBranch 14 = .ok (.baload, 1) := by decide +kernel
theorem d_M_isBranch_15 : decode b_M_isBranch 15 = .ok (.ifCond .eq 7, 3) := by decide +kernel
theorem d_M_isBranch_18 : decode b_M_isBranch 18 = .ok (.iconst 1, 1) := by decide +kernel
theorem d_M_isBranch_19 : decode b_M_isBranch 19 = .ok (.goto 4, 3) := by decide +kernel
theorem d_M_isBranch_22 : decode b_M_isBranch 22 = .ok (.iconst 0, 1) := by decide +kernel
theorem d_M_isBranch_23 : decode b_M_isBranch 23 = .ok (.ireturn, 1) := by decide +kernel
theorem d_M_region_0 : decode b_M_region 0 = .ok (.aload_n 0, 1) := by decide +kernel
theorem d_M_region_1 : decode b_M_region 1 = .ok (.iconst 0, 1) := by decide +kernel
theorem d_M_region_2 : decode b_M_region 2 = .ok (.putfield 90, 3) := by decide +kernel
theorem d_M_region_5 : decode b_M_region 5 = .ok (.iload_n 1, 1) := by decide +kernel
theorem d_M_region_6 : decode b_M_region 6 = .ok (.ifCond .lt 47, 3) := by decide +kernel
theorem d_M_region_9 : decode b_M_region 9 = .ok (.iload_n 2, 1) := by decide +kernel
theorem d_M_region_10 : decode b_M_region 10 = .ok (.ifCond .lt 43, 3) := by decide +kernel
theorem d_M_region_13 : decode b_M_region 13 = .ok (.iload_n 3, 1) := by decide +kernel
theorem d_M_region_14 : decode b_M_region 14 = .ok (.iconst 1, 1) := by decide +kernel
theorem d_M_region_15 : decode b_M_region 15 = .ok (.if_icmp .lt 38, 3) := by decide +kernel
theorem d_M_region_18 : decode b_M_region 18 = .ok (.iload 4, 2) := by decide +kernel
theorem d_M_region_20 : decode b_M_region 20 = .ok (.iconst 1, 1) := by decide +kernel
theorem d_M_region_21 : decode b_M_region 21 = .ok (.if_icmp .lt 32, 3) := by decide +kernel
theorem d_M_region_24 : decode b_M_region 24 = .ok (.iload_n 1, 1) := by decide +kernel
theorem d_M_region_25 : decode b_M_region 25 = .ok (.bipush 32, 2) := by decide +kernel
theorem d_M_region_27 : decode b_M_region 27 = .ok (.if_icmp .ge 26, 3) := by decide +kernel
theorem d_M_region_30 : decode b_M_region 30 = .ok (.iload_n 2, 1) := by decide +kernel
theorem d_M_region_31 : decode b_M_region 31 = .ok (.bipush 32, 2) := by decide +kernel
theorem d_M_region_33 : decode b_M_region 33 = .ok (.if_icmp .ge 20, 3) := by decide +kernel
theorem d_M_region_36 : decode b_M_region 36 = .ok (.iload_n 3, 1) := by decide +kernel
theorem d_M_region_37 : decode b_M_region 37 = .ok (.bipush 32, 2) := by decide +kernel
theorem d_M_region_39 : decode b_M_region 39 = .ok (.iload_n 1, 1) := by decide +kernel
theorem d_M_region_40 : decode b_M_region 40 = .ok (.isub, 1) := by decide +kernel
theorem d_M_region_41 : decode b_M_region 41 = .ok (.if_icmp .gt 12, 3) := by decide +kernel
theorem d_M_region_44 : decode b_M_region 44 = .ok (.iload 4, 2) := by decide +kernel
theorem d_M_region_46 : decode b_M_region 46 = .ok (.bipush 32, 2) := by decide +kernel
theorem d_M_region_48 : decode b_M_region 48 = .ok (.iload_n 2, 1) := by decide +kernel
theorem d_M_region_49 : decode b_M_region 49 = .ok (.isub, 1) := by decide +kernel
theorem d_M_region_50 : decode b_M_region 50 = .ok (.if_icmp .le 5, 3) := by decide +kernel
theorem d_M_region_53 : decode b_M_region 53 = .ok (.iconst 0, 1) := by decide +kernel
theorem d_M_region_54 : decode b_M_region 54 = .ok (.ireturn, 1) := by decide +kernel
theorem d_M_region_55 : decode b_M_region 55 = .ok (.aload_n 0, 1) := by decide +kernel
theorem d_M_region_56 : decode b_M_region 56 = .ok (.iload_n 1, 1) := by decide +kernel
theorem d_M_region_57 : decode b_M_region 57 = .ok (.putfield 109, 3) := by decide +kernel
theorem d_M_region_60 : decode b_M_region 60 = .ok (.aload_n 0, 1) := by decide +kernel
theorem d_M_region_61 : decode b_M_region 61 = .ok (.iload_n 2, 1) := by decide +kernel
theorem d_M_region_62 : decode b_M_region 62 = .ok (.putfield 112, 3) := by decide +kernel
theorem d_M_region_65 : decode b_M_region 65 = .ok (.aload_n 0, 1) := by decide +kernel
theorem d_M_region_66 : decode b_M_region 66 = .ok (.iload_n 3, 1) := by decide +kernel
theorem d_M_region_67 : decode b_M_region 67 = .ok (.putfield 58, 3) := by decide +kernel
theorem d_M_region_70 : decode b_M_region 70 = .ok (.aload_n 0, 1) := by decide +kernel
theorem d_M_region_71 : decode b_M_region 71 = .ok (.iload 4, 2) := by decide +kernel
theorem d_M_region_73 : decode b_M_region 73 = .ok (.putfield 61, 3) := by decide +kernel
theorem d_M_region_76 : decode b_M_region 76 = .ok (.iconst 1, 1) := by decide +kernel
theorem d_M_region_77 : decode b_M_region 77 = .ok (.ireturn, 1) := by decide +kernel
theorem d_M_paint_0 : decode b_M_paint 0 = .ok (.aload_n 0, 1) := by decide +kernel
theorem d_M_paint_1 : decode b_M_paint 1 = .ok (.aload_n 0, 1) := by decide +kernel
theorem d_M_paint_2 : decode b_M_paint 2 = .ok (.iload_n 1, 1) := by decide +kernel
theorem d_M_paint_3 : decode b_M_paint 3 = .ok (.invokevirtual 97, 3) := by decide +kernel
theorem d_M_paint_6 : decode b_M_paint 6 = .ok (.ifCond .eq 17, 3) := by decide +kernel
theorem d_M_paint_9 : decode b_M_paint 9 = .ok (.iload_n 2, 1) := by decide +kernel
theorem d_M_paint_10 : decode b_M_paint 10 = .ok (.invokestatic 102, 3) := by decide +kernel
theorem d_M_paint_13 : decode b_M_paint 13 = .ok (.ifCond .eq 10, 3) := by decide +kernel
theorem d_M_paint_16 : decode b_M_paint 16 = .ok (.iload_n 3, 1) := by decide +kernel
theorem d_M_paint_17 : decode b_M_paint 17 = .ok (.invokestatic 116, 3) := by decide +kernel
theorem d_M_paint_20 : decode b_M_paint 20 = .ok (.ifCond .ne 7, 3) := by decide +kernel
theorem d_M_paint_23 : decode b_M_paint 23 = .ok (.iconst 1, 1) := by decide +kernel
theorem d_M_paint_24 : decode b_M_paint 24 = .ok (.goto 4, 3) := by decide +kernel
theorem d_M_paint_27 : decode b_M_paint 27 = .ok (.iconst 0, 1) := by decide +kernel
theorem d_M_paint_28 : decode b_M_paint 28 = .ok (.invokevirtual 119, 3) := by decide +kernel
theorem d_M_paint_31 : decode b_M_paint 31 = .ok (.ifCond .eq 4, 3) := by decide +kernel
theorem d_M_paint_34 : decode b_M_paint 34 = .ok (.return_, 1) := by decide +kernel
theorem d_M_paint_35 : decode b_M_paint 35 = .ok (.aload_n 0, 1) := by decide +kernel
theorem d_M_paint_36 : decode b_M_paint 36 = .ok (.getfield 112, 3) := by decide +kernel
theorem d_M_paint_39 : decode b_M_paint 39 = .ok (.istore 4, 2) := by decide +kernel
theorem d_M_paint_41 : decode b_M_paint 41 = .ok (.iload 4, 2) := by decide +kernel
theorem d_M_paint_43 : decode b_M_paint 43 = .ok (.aload_n 0, 1) := by decide +kernel
theorem d_M_paint_44 : decode b_M_paint 44 = .ok (.getfield 112, 3) := by decide +kernel
theorem d_M_paint_47 : decode b_M_paint 47 = .ok (.aload_n 0, 1) := by decide +kernel
theorem d_M_paint_48 : decode b_M_paint 48 = .ok (.getfield 61, 3) := by decide +kernel
theorem d_M_paint_51 : decode b_M_paint 51 = .ok (.iadd, 1) := by decide +kernel
theorem d_M_paint_52 : decode b_M_paint 52 = .ok (.if_icmp .ge 49, 3) := by decide +kernel
theorem d_M_paint_55 : decode b_M_paint 55 = .ok (.aload_n 0, 1) := by decide +kernel
theorem d_M_paint_56 : decode b_M_paint 56 = .ok (.getfield 109, 3) := by decide +kernel
theorem d_M_paint_59 : decode b_M_paint 59 = .ok (.istore 5, 2) := by decide +kernel
theorem d_M_paint_61 : decode b_M_paint 61 = .ok (.iload 5, 2) := by decide +kernel
theorem d_M_paint_63 : decode b_M_paint 63 = .ok (.aload_n 0, 1) := by decide +kernel
theorem d_M_paint_64 : decode b_M_paint 64 = .ok (.getfield 109, 3) := by decide +kernel
theorem d_M_paint_67 : decode b_M_paint 67 = .ok (.aload_n 0, 1) := by decide +kernel
theorem d_M_paint_68 : decode b_M_paint 68 = .ok (.getfield 58, 3) := by decide +kernel
theorem d_M_paint_71 : decode b_M_paint 71 = .ok (.iadd, 1) := by decide +kernel
theorem d_M_paint_72 : decode b_M_paint 72 = .ok (.if_icmp .ge 23, 3) := by decide +kernel
theorem d_M_paint_75 : decode b_M_paint 75 = .ok (.aload_n 0, 1) := by decide +kernel
theorem d_M_paint_76 : decode b_M_paint 76 = .ok (.iload_n 1, 1) := by decide +kernel
theorem d_M_paint_77 : decode b_M_paint 77 = .ok (.iload_n 2, 1) := by decide +kernel
theorem d_M_paint_78 : decode b_M_paint 78 = .ok (.iload 5, 2) := by decide +kernel
theorem d_M_paint_80 : decode b_M_paint 80 = .ok (.iload 4, 2) := by decide +kernel
theorem d_M_paint_82 : decode b_M_paint 82 = .ok (.invokestatic 123, 3) := by decide +kernel
theorem d_M_paint_85 : decode b_M_paint 85 = .ok (.iload_n 3, 1) := by decide +kernel
theorem d_M_paint_86 : decode b_M_paint 86 = .ok (.invokevirtual 127, 3) := by decide +kernel
theorem d_M_paint_89 : decode b_M_paint 89 = .ok (.iinc 5 1, 3) := by decide +kernel
theorem d_M_paint_92 : decode b_M_paint 92 = .ok (.goto (-31), 3) := by decide +kernel
theorem d_M_paint_95 : decode b_M_paint 95 = .ok (.iinc 4 1, 3) := by decide +kernel
theorem d_M_paint_98 : decode b_M_paint 98 = .ok (.goto (-57), 3) := by decide +kernel
theorem d_M_paint_101 : decode b_M_paint 101 = .ok (.return_, 1) := by decide +kernel
theorem d_M_isValue_0 : decode b_M_isValue 0 = .ok (.iload_n 0, 1) := by decide +kernel
theorem d_M_isValue_1 : decode b_M_isValue 1 = .ok (.ldc 89, 2) := by decide +kernel
theorem d_M_isValue_3 : decode b_M_isValue 3 = .ok (.if_icmp .eq 15, 3) := by decide +kernel
theorem d_M_isValue_6 : decode b_M_isValue 6 = .ok (.iload_n 0, 1) := by decide +kernel
theorem d_M_isValue_7 : decode b_M_isValue 7 = .ok (.ldc 100, 2) := by decide +kernel
theorem d_M_isValue_9 : decode b_M_isValue 9 = .ok (.if_icmp .lt 13, 3) := by decide +kernel
theorem d_M_isValue_12 : decode b_M_isValue 12 = .ok (.iload_n 0, 1) := by decide +kernel
theorem d_M_isValue_13 : decode b_M_isValue 13 = .ok (.ldc 101, 2) := by decide +kernel
theorem d_M_isValue_15 : decode b_M_isValue 15 = .ok (.if_icmp .gt 7, 3) := by decide +kernel
theorem d_M_isValue_18 : decode b_M_isValue 18 = .ok (.iconst 1, 1) := by decide +kernel
theorem d_M_isValue_19 : decode b_M_isValue 19 = .ok (.goto 4, 3) := by decide +kernel
theorem d_M_isValue_22 : decode b_M_isValue 22 = .ok (.iconst 0, 1) := by decide +kernel
theorem d_M_isValue_23 : decode b_M_isValue 23 = .ok (.ireturn, 1) := by decide +kernel
theorem d_M_fails_0 : decode b_M_fails 0 = .ok (.aload_n 0, 1) := by decide +kernel
theorem d_M_fails_1 : decode b_M_fails 1 = .ok (.iload_n 1, 1) := by decide +kernel
theorem d_M_fails_2 : decode b_M_fails 2 = .ok (.ifCond .eq 7, 3) := by decide +kernel
theorem d_M_fails_5 : decode b_M_fails 5 = .ok (.iconst 1, 1) := by decide +kernel
theorem d_M_fails_6 : decode b_M_fails 6 = .ok (.goto 4, 3) := by decide +kernel
theorem d_M_fails_9 : decode b_M_fails 9 = .ok (.iconst 0, 1) := by decide +kernel
theorem d_M_fails_10 : decode b_M_fails 10 = .ok (.putfield 90, 3) := by decide +kernel
theorem d_M_fails_13 : decode b_M_fails 13 = .ok (.iload_n 1, 1) := by decide +kernel
theorem d_M_fails_14 : decode b_M_fails 14 = .ok (.ireturn, 1) := by decide +kernel
theorem d_M_cellOf_0 : decode b_M_cellOf 0 = .ok (.sipush 1024, 3) := by decide +kernel
theorem d_M_cellOf_3 : decode b_M_cellOf 3 = .ok (.iload_n 0, 1) := by decide +kernel
theorem d_M_cellOf_4 : decode b_M_cellOf 4 = .ok (.imul, 1) := by decide +kernel
theorem d_M_cellOf_5 : decode b_M_cellOf 5 = .ok (.bipush 32, 2) := by decide +kernel
theorem d_M_cellOf_7 : decode b_M_cellOf 7 = .ok (.iload_n 2, 1) := by decide +kernel
theorem d_M_cellOf_8 : decode b_M_cellOf 8 = .ok (.imul, 1) := by decide +kernel
theorem d_M_cellOf_9 : decode b_M_cellOf 9 = .ok (.iadd, 1) := by decide +kernel
theorem d_M_cellOf_10 : decode b_M_cellOf 10 = .ok (.iload_n 1, 1) := by decide +kernel
theorem d_M_cellOf_11 : decode b_M_cellOf 11 = .ok (.iadd, 1) := by decide +kernel
theorem d_M_cellOf_12 : decode b_M_cellOf 12 = .ok (.ireturn, 1) := by decide +kernel
theorem d_M_give_0 : decode b_M_give 0 = .ok (.aload_n 0, 1) := by decide +kernel
theorem d_M_give_1 : decode b_M_give 1 = .ok (.getfield 8, 3) := by decide +kernel
theorem d_M_give_4 : decode b_M_give 4 = .ok (.sipush 4096, 3) := by decide +kernel
theorem d_M_give_7 : decode b_M_give 7 = .ok (.bipush 24, 2) := by decide +kernel
theorem d_M_give_9 : decode b_M_give 9 = .ok (.iload_n 1, 1) := by decide +kernel
theorem d_M_give_10 : decode b_M_give 10 = .ok (.iadd, 1) := by decide +kernel
theorem d_M_give_11 : decode b_M_give 11 = .ok (.imul, 1) := by decide +kernel
theorem d_M_give_12 : decode b_M_give 12 = .ok (.iload_n 2, 1) := by decide +kernel
theorem d_M_give_13 : decode b_M_give 13 = .ok (.iadd, 1) := by decide +kernel
theorem d_M_give_14 : decode b_M_give 14 = .ok (.iload_n 3, 1) := by decide +kernel
theorem d_M_give_15 : decode b_M_give 15 = .ok (.iastore, 1) := by decide +kernel
theorem d_M_give_16 : decode b_M_give 16 = .ok (.aload_n 0, 1) := by decide +kernel
theorem d_M_give_17 : decode b_M_give 17 = .ok (.getfield 14, 3) := by decide +kernel
theorem d_M_give_20 : decode b_M_give 20 = .ok (.sipush 4096, 3) := by decide +kernel
theorem d_M_give_23 : decode b_M_give 23 = .ok (.bipush 24, 2) := by decide +kernel
theorem d_M_give_25 : decode b_M_give 25 = .ok (.iload_n 1, 1) := by decide +kernel
theorem d_M_give_26 : decode b_M_give 26 = .ok (.iadd, 1) := by decide +kernel
theorem d_M_give_27 : decode b_M_give 27 = .ok (.imul, 1) := by decide +kernel
theorem d_M_give_28 : decode b_M_give 28 = .ok (.iload_n 2, 1) := by decide +kernel
theorem d_M_give_29 : decode b_M_give 29 = .ok (.iadd, 1) := by decide +kernel
theorem d_M_give_30 : decode b_M_give 30 = .ok (.iload_n 3, 1) := by decide +kernel
theorem d_M_give_31 : decode b_M_give 31 = .ok (.ldc 89, 2) := by decide +kernel
theorem d_M_give_33 : decode b_M_give 33 = .ok (.if_icmp .ne 7, 3) := by decide +kernel
theorem d_M_give_36 : decode b_M_give 36 = .ok (.iconst (-1), 1) := by decide +kernel
theorem d_M_give_37 : decode b_M_give 37 = .ok (.goto 7, 3) := by decide +kernel
theorem d_M_give_40 : decode b_M_give 40 = .ok (.ldc 115, 2) := by decide +kernel
theorem d_M_give_42 : decode b_M_give 42 = .ok (.iload_n 2, 1) := by decide +kernel
theorem d_M_give_43 : decode b_M_give 43 = .ok (.iadd, 1) := by decide +kernel
theorem d_M_give_44 : decode b_M_give 44 = .ok (.iastore, 1) := by decide +kernel
theorem d_M_give_45 : decode b_M_give 45 = .ok (.return_, 1) := by decide +kernel
theorem d_M_corner_0 : decode b_M_corner 0 = .ok (.aload_n 0, 1) := by decide +kernel
theorem d_M_corner_1 : decode b_M_corner 1 = .ok (.iconst 0, 1) := by decide +kernel
theorem d_M_corner_2 : decode b_M_corner 2 = .ok (.putfield 90, 3) := by decide +kernel
theorem d_M_corner_5 : decode b_M_corner 5 = .ok (.iload_n 1, 1) := by decide +kernel
theorem d_M_corner_6 : decode b_M_corner 6 = .ok (.ifCond .lt 28, 3) := by decide +kernel
theorem d_M_corner_9 : decode b_M_corner 9 = .ok (.iload_n 1, 1) := by decide +kernel
theorem d_M_corner_10 : decode b_M_corner 10 = .ok (.iconst 5, 1) := by decide +kernel
theorem d_M_corner_11 : decode b_M_corner 11 = .ok (.if_icmp .gt 23, 3) := by decide +kernel
theorem d_M_corner_14 : decode b_M_corner 14 = .ok (.iload_n 2, 1) := by decide +kernel
theorem d_M_corner_15 : decode b_M_corner 15 = .ok (.ifCond .lt 19, 3) := by decide +kernel
theorem d_M_corner_18 : decode b_M_corner 18 = .ok (.iload_n 2, 1) := by decide +kernel
theorem d_M_corner_19 : decode b_M_corner 19 = .ok (.bipush 32, 2) := by decide +kernel
theorem d_M_corner_21 : decode b_M_corner 21 = .ok (.if_icmp .gt 13, 3) := by decide +kernel
theorem d_M_corner_24 : decode b_M_corner 24 = .ok (.iload_n 3, 1) := by decide +kernel
theorem d_M_corner_25 : decode b_M_corner 25 = .ok (.ifCond .lt 9, 3) := by decide +kernel
theorem d_M_corner_28 : decode b_M_corner 28 = .ok (.iload_n 3, 1) := by decide +kernel
theorem d_M_corner_29 : decode b_M_corner 29 = .ok (.bipush 32, 2) := by decide +kernel
theorem d_M_corner_31 : decode b_M_corner 31 = .ok (.if_icmp .le 5, 3) := by decide +kernel
theorem d_M_corner_34 : decode b_M_corner 34 = .ok (.iconst 0, 1) := by decide +kernel
theorem d_M_corner_35 : decode b_M_corner 35 = .ok (.ireturn, 1) := by decide +kernel
theorem d_M_corner_36 : decode b_M_corner 36 = .ok (.aload_n 0, 1) := by decide +kernel
theorem d_M_corner_37 : decode b_M_corner 37 = .ok (.getfield 64, 3) := by decide +kernel
theorem d_M_corner_40 : decode b_M_corner 40 = .ok (.iload_n 1, 1) := by decide +kernel
theorem d_M_corner_41 : decode b_M_corner 41 = .ok (.iload_n 2, 1) := by decide +kernel
theorem d_M_corner_42 : decode b_M_corner 42 = .ok (.iastore, 1) := by decide +kernel
theorem d_M_corner_43 : decode b_M_corner 43 = .ok (.aload_n 0, 1) := by decide +kernel
theorem d_M_corner_44 : decode b_M_corner 44 = .ok (.getfield 67, 3) := by decide +kernel
theorem d_M_corner_47 : decode b_M_corner 47 = .ok (.iload_n 1, 1) := by decide +kernel
theorem d_M_corner_48 : decode b_M_corner 48 = .ok (.iload_n 3, 1) := by decide +kernel
theorem d_M_corner_49 : decode b_M_corner 49 = .ok (.iastore, 1) := by decide +kernel
theorem d_M_corner_50 : decode b_M_corner 50 = .ok (.iconst 1, 1) := by decide +kernel
theorem d_M_corner_51 : decode b_M_corner 51 = .ok (.ireturn, 1) := by decide +kernel
theorem d_M_polygon_0 : decode b_M_polygon 0 = .ok (.aload_n 0, 1) := by decide +kernel
theorem d_M_polygon_1 : decode b_M_polygon 1 = .ok (.aload_n 0, 1) := by decide +kernel
theorem d_M_polygon_2 : decode b_M_polygon 2 = .ok (.iload_n 1, 1) := by decide +kernel
theorem d_M_polygon_3 : decode b_M_polygon 3 = .ok (.invokevirtual 97, 3) := by decide +kernel
theorem d_M_polygon_6 : decode b_M_polygon 6 = .ok (.ifCond .eq 29, 3) := by decide +kernel
theorem d_M_polygon_9 : decode b_M_polygon 9 = .ok (.iload_n 2, 1) := by decide +kernel
theorem d_M_polygon_10 : decode b_M_polygon 10 = .ok (.invokestatic 102, 3) := by decide +kernel
theorem d_M_polygon_13 : decode b_M_polygon 13 = .ok (.ifCond .eq 22, 3) := by decide +kernel
theorem d_M_polygon_16 : decode b_M_polygon 16 = .ok (.iload_n 3, 1) := by decide +kernel
theorem d_M_polygon_17 : decode b_M_polygon 17 = .ok (.iconst 3, 1) := by decide +kernel
theorem d_M_polygon_18 : decode b_M_polygon 18 = .ok (.if_icmp .lt 17, 3) := by decide +kernel
theorem d_M_polygon_21 : decode b_M_polygon 21 = .ok (.iload_n 3, 1) := by decide +kernel
theorem d_M_polygon_22 : decode b_M_polygon 22 = .ok (.bipush 6, 2) := by decide +kernel
theorem d_M_polygon_24 : decode b_M_polygon 24 = .ok (.if_icmp .gt 11, 3) := by decide +kernel
theorem d_M_polygon_27 : decode b_M_polygon 27 = .ok (.iload 4, 2) := by decide +kernel
theorem d_M_polygon_29 : decode b_M_polygon 29 = .ok (.invokestatic 116, 3) := by decide +kernel
theorem d_M_polygon_32 : decode b_M_polygon 32 = .ok (.ifCond .ne 7, 3) := by decide +kernel
theorem d_M_polygon_35 : decode b_M_polygon 35 = .ok (.iconst 1, 1) := by decide +kernel
theorem d_M_polygon_36 : decode b_M_polygon 36 = .ok (.goto 4, 3) := by decide +kernel
theorem d_M_polygon_39 : decode b_M_polygon 39 = .ok (.iconst 0, 1) := by decide +kernel
theorem d_M_polygon_40 : decode b_M_polygon 40 = .ok (.invokevirtual 119, 3) := by decide +kernel
theorem d_M_polygon_43 : decode b_M_polygon 43 = .ok (.ifCond .eq 4, 3) := by decide +kernel
theorem d_M_polygon_46 : decode b_M_polygon 46 = .ok (.return_, 1) := by decide +kernel
theorem d_M_polygon_47 : decode b_M_polygon 47 = .ok (.iconst 0, 1) := by decide +kernel
theorem d_M_polygon_48 : decode b_M_polygon 48 = .ok (.istore 5, 2) := by decide +kernel
theorem d_M_polygon_50 : decode b_M_polygon 50 = .ok (.iload 5, 2) := by decide +kernel
theorem d_M_polygon_52 : decode b_M_polygon 52 = .ok (.bipush 32, 2) := by decide +kernel
theorem d_M_polygon_54 : decode b_M_polygon 54 = .ok (.if_icmp .ge 95, 3) := by decide +kernel
theorem d_M_polygon_57 : decode b_M_polygon 57 = .ok (.iconst 0, 1) := by decide +kernel
theorem d_M_polygon_58 : decode b_M_polygon 58 = .ok (.istore 6, 2) := by decide +kernel
theorem d_M_polygon_60 : decode b_M_polygon 60 = .ok (.iload 6, 2) := by decide +kernel
theorem d_M_polygon_62 : decode b_M_polygon 62 = .ok (.bipush 32, 2) := by decide +kernel
theorem d_M_polygon_64 : decode b_M_polygon 64 = .ok (.if_icmp .ge 79, 3) := by decide +kernel
theorem d_M_polygon_67 : decode b_M_polygon 67 = .ok (.iconst 0, 1) := by decide +kernel
theorem d_M_polygon_68 : decode b_M_polygon 68 = .ok (.istore 7, 2) := by decide +kernel
theorem d_M_polygon_70 : decode b_M_polygon 70 = .ok (.iconst 0, 1) := by decide +kernel
theorem d_M_polygon_71 : decode b_M_polygon 71 = .ok (.istore 8, 2) := by decide +kernel
theorem d_M_polygon_73 : decode b_M_polygon 73 = .ok (.iload 8, 2) := by decide +kernel
theorem d_M_polygon_75 : decode b_M_polygon 75 = .ok (.iload_n 3, 1) := by decide +kernel
theorem d_M_polygon_76 : decode b_M_polygon 76 = .ok (.if_icmp .ge 38, 3) := by decide +kernel
theorem d_M_polygon_79 : decode b_M_polygon 79 = .ok (.iload 7, 2) := by decide +kernel
theorem d_M_polygon_81 : decode b_M_polygon 81 = .ok (.aload_n 0, 1) := by decide +kernel
theorem d_M_polygon_82 : decode b_M_polygon 82 = .ok (.iload 8, 2) := by decide +kernel
theorem d_M_polygon_84 : decode b_M_polygon 84 = .ok (.iload 8, 2) := by decide +kernel
theorem d_M_polygon_86 : decode b_M_polygon 86 = .ok (.iconst 1, 1) := by decide +kernel
theorem d_M_polygon_87 : decode b_M_polygon 87 = .ok (.iadd, 1) := by decide +kernel
theorem d_M_polygon_88 : decode b_M_polygon 88 = .ok (.iload_n 3, 1) := by decide +kernel
theorem d_M_polygon_89 : decode b_M_polygon 89 = .ok (.irem, 1) := by decide +kernel
theorem d_M_polygon_90 : decode b_M_polygon 90 = .ok (.iload 6, 2) := by decide +kernel
theorem d_M_polygon_92 : decode b_M_polygon 92 = .ok (.iload 5, 2) := by decide +kernel
theorem d_M_polygon_94 : decode b_M_polygon 94 = .ok (.invokevirtual 131, 3) := by decide +kernel
theorem d_M_polygon_97 : decode b_M_polygon 97 = .ok (.ifCond .eq 7, 3) := by decide +kernel
theorem d_M_polygon_100 : decode b_M_polygon 100 = .ok (.iconst 1, 1) := by decide +kernel
theorem d_M_polygon_101 : decode b_M_polygon 101 = .ok (.goto 4, 3) := by decide +kernel
theorem d_M_polygon_104 : decode b_M_polygon 104 = .ok (.iconst 0, 1) := by decide +kernel
theorem d_M_polygon_105 : decode b_M_polygon 105 = .ok (.iadd, 1) := by decide +kernel
theorem d_M_polygon_106 : decode b_M_polygon 106 = .ok (.istore 7, 2) := by decide +kernel
theorem d_M_polygon_108 : decode b_M_polygon 108 = .ok (.iinc 8 1, 3) := by decide +kernel
theorem d_M_polygon_111 : decode b_M_polygon 111 = .ok (.goto (-38), 3) := by decide +kernel
theorem d_M_polygon_114 : decode b_M_polygon 114 = .ok (.iload 7, 2) := by decide +kernel
theorem d_M_polygon_116 : decode b_M_polygon 116 = .ok (.iconst 2, 1) := by decide +kernel
theorem d_M_polygon_117 : decode b_M_polygon 117 = .ok (.irem, 1) := by decide +kernel
theorem d_M_polygon_118 : decode b_M_polygon 118 = .ok (.iconst 1, 1) := by decide +kernel
theorem d_M_polygon_119 : decode b_M_polygon 119 = .ok (.if_icmp .ne 18, 3) := by decide +kernel
theorem d_M_polygon_122 : decode b_M_polygon 122 = .ok (.aload_n 0, 1) := by decide +kernel
theorem d_M_polygon_123 : decode b_M_polygon 123 = .ok (.iload_n 1, 1) := by decide +kernel
theorem d_M_polygon_124 : decode b_M_polygon 124 = .ok (.iload_n 2, 1) := by decide +kernel
theorem d_M_polygon_125 : decode b_M_polygon 125 = .ok (.iload 6, 2) := by decide +kernel
theorem d_M_polygon_127 : decode b_M_polygon 127 = .ok (.iload 5, 2) := by decide +kernel
theorem d_M_polygon_129 : decode b_M_polygon 129 = .ok (.invokestatic 123, 3) := by decide +kernel
theorem d_M_polygon_132 : decode b_M_polygon 132 = .ok (.iload 4, 2) := by decide +kernel
theorem d_M_polygon_134 : decode b_M_polygon 134 = .ok (.invokevirtual 127, 3) := by decide +kernel
theorem d_M_polygon_137 : decode b_M_polygon 137 = .ok (.iinc 6 1, 3) := by decide +kernel
theorem d_M_polygon_140 : decode b_M_polygon 140 = .ok (.goto (-80), 3) := by decide +kernel
theorem d_M_polygon_143 : decode b_M_polygon 143 = .ok (.iinc 5 1, 3) := by decide +kernel
theorem d_M_polygon_146 : decode b_M_polygon 146 = .ok (.goto (-96), 3) := by decide +kernel
theorem d_M_polygon_149 : decode b_M_polygon 149 = .ok (.return_, 1) := by decide +kernel
theorem d_M_meets_0 : decode b_M_meets 0 = .ok (.aload_n 0, 1) := by decide +kernel
theorem d_M_meets_1 : decode b_M_meets 1 = .ok (.getfield 67, 3) := by decide +kernel
theorem d_M_meets_4 : decode b_M_meets 4 = .ok (.iload_n 1, 1) := by decide +kernel
theorem d_M_meets_5 : decode b_M_meets 5 = .ok (.iaload, 1) := by decide +kernel
theorem d_M_meets_6 : decode b_M_meets 6 = .ok (.iload 4, 2) := by decide +kernel
theorem d_M_meets_8 : decode b_M_meets 8 = .ok (.isub, 1) := by decide +kernel
theorem d_M_meets_9 : decode b_M_meets 9 = .ok (.istore 5, 2) := by decide +kernel
theorem d_M_meets_11 : decode b_M_meets 11 = .ok (.aload_n 0, 1) := by decide +kernel
theorem d_M_meets_12 : decode b_M_meets 12 = .ok (.getfield 67, 3) := by decide +kernel
theorem d_M_meets_15 : decode b_M_meets 15 = .ok (.iload_n 2, 1) := by decide +kernel
theorem d_M_meets_16 : decode b_M_meets 16 = .ok (.iaload, 1) := by decide +kernel
theorem d_M_meets_17 : decode b_M_meets 17 = .ok (.iload 4, 2) := by decide +kernel
theorem d_M_meets_19 : decode b_M_meets 19 = .ok (.isub, 1) := by decide +kernel
theorem d_M_meets_20 : decode b_M_meets 20 = .ok (.istore 6, 2) := by decide +kernel
theorem d_M_meets_22 : decode b_M_meets 22 = .ok (.iconst 2, 1) := by decide +kernel
theorem d_M_meets_23 : decode b_M_meets 23 = .ok (.iload 5, 2) := by decide +kernel
theorem d_M_meets_25 : decode b_M_meets 25 = .ok (.imul, 1) := by decide +kernel
theorem d_M_meets_26 : decode b_M_meets 26 = .ok (.iconst 1, 1) := by decide +kernel
theorem d_M_meets_27 : decode b_M_meets 27 = .ok (.isub, 1) := by decide +kernel
theorem d_M_meets_28 : decode b_M_meets 28 = .ok (.istore 7, 2) := by decide +kernel
theorem d_M_meets_30 : decode b_M_meets 30 = .ok (.iconst 2, 1) := by decide +kernel
theorem d_M_meets_31 : decode b_M_meets 31 = .ok (.iload 6, 2) := by decide +kernel
theorem d_M_meets_33 : decode b_M_meets 33 = .ok (.imul, 1) := by decide +kernel
theorem d_M_meets_34 : decode b_M_meets 34 = .ok (.iconst 1, 1) := by decide +kernel
theorem d_M_meets_35 : decode b_M_meets 35 = .ok (.isub, 1) := by decide +kernel
theorem d_M_meets_36 : decode b_M_meets 36 = .ok (.istore 8, 2) := by decide +kernel
theorem d_M_meets_38 : decode b_M_meets 38 = .ok (.iload 7, 2) := by decide +kernel
theorem d_M_meets_40 : decode b_M_meets 40 = .ok (.ifCond .le 7, 3) := by decide +kernel
theorem d_M_meets_43 : decode b_M_meets 43 = .ok (.iconst 1, 1) := by decide +kernel
theorem d_M_meets_44 : decode b_M_meets 44 = .ok (.goto 4, 3) := by decide +kernel
theorem d_M_meets_47 : decode b_M_meets 47 = .ok (.iconst 0, 1) := by decide +kernel
theorem d_M_meets_48 : decode b_M_meets 48 = .ok (.iload 8, 2) := by decide +kernel
theorem d_M_meets_50 : decode b_M_meets 50 = .ok (.ifCond .le 7, 3) := by decide +kernel
theorem d_M_meets_53 : decode b_M_meets 53 = .ok (.iconst 1, 1) := by decide +kernel
theorem d_M_meets_54 : decode b_M_meets 54 = .ok (.goto 4, 3) := by decide +kernel
theorem d_M_meets_57 : decode b_M_meets 57 = .ok (.iconst 0, 1) := by decide +kernel
theorem d_M_meets_58 : decode b_M_meets 58 = .ok (.if_icmp .ne 5, 3) := by decide +kernel
theorem d_M_meets_61 : decode b_M_meets 61 = .ok (.iconst 0, 1) := by decide +kernel
theorem d_M_meets_62 : decode b_M_meets 62 = .ok (.ireturn, 1) := by decide +kernel
theorem d_M_meets_63 : decode b_M_meets 63 = .ok (.iload 7, 2) := by decide +kernel
theorem d_M_meets_65 : decode b_M_meets 65 = .ok (.iload 8, 2) := by decide +kernel
theorem d_M_meets_67 : decode b_M_meets 67 = .ok (.isub, 1) := by decide +kernel
theorem d_M_meets_68 : decode b_M_meets 68 = .ok (.istore 9, 2) := by decide +kernel
theorem d_M_meets_70 : decode b_M_meets 70 = .ok (.iconst 2, 1) := by decide +kernel
theorem d_M_meets_71 : decode b_M_meets 71 = .ok (.aload_n 0, 1) := by decide +kernel
theorem d_M_meets_72 : decode b_M_meets 72 = .ok (.getfield 64, 3) := by decide +kernel
theorem d_M_meets_75 : decode b_M_meets 75 = .ok (.iload_n 1, 1) := by decide +kernel
theorem d_M_meets_76 : decode b_M_meets 76 = .ok (.iaload, 1) := by decide +kernel
theorem d_M_meets_77 : decode b_M_meets 77 = .ok (.imul, 1) := by decide +kernel
theorem d_M_meets_78 : decode b_M_meets 78 = .ok (.iload 9, 2) := by decide +kernel
theorem d_M_meets_80 : decode b_M_meets 80 = .ok (.imul, 1) := by decide +kernel
theorem d_M_meets_81 : decode b_M_meets 81 = .ok (.iconst 2, 1) := by decide +kernel
theorem d_M_meets_82 : decode b_M_meets 82 = .ok (.aload_n 0, 1) := by decide +kernel
theorem d_M_meets_83 : decode b_M_meets 83 = .ok (.getfield 64, 3) := by decide +kernel
theorem d_M_meets_86 : decode b_M_meets 86 = .ok (.iload_n 2, 1) := by decide +kernel
theorem d_M_meets_87 : decode b_M_meets 87 = .ok (.iaload, 1) := by decide +kernel
theorem d_M_meets_88 : decode b_M_meets 88 = .ok (.aload_n 0, 1) := by decide +kernel
theorem d_M_meets_89 : decode b_M_meets 89 = .ok (.getfield 64, 3) := by decide +kernel
theorem d_M_meets_92 : decode b_M_meets 92 = .ok (.iload_n 1, 1) := by decide +kernel
theorem d_M_meets_93 : decode b_M_meets 93 = .ok (.iaload, 1) := by decide +kernel
theorem d_M_meets_94 : decode b_M_meets 94 = .ok (.isub, 1) := by decide +kernel
theorem d_M_meets_95 : decode b_M_meets 95 = .ok (.imul, 1) := by decide +kernel
theorem d_M_meets_96 : decode b_M_meets 96 = .ok (.iload 7, 2) := by decide +kernel
theorem d_M_meets_98 : decode b_M_meets 98 = .ok (.imul, 1) := by decide +kernel
theorem d_M_meets_99 : decode b_M_meets 99 = .ok (.iadd, 1) := by decide +kernel
theorem d_M_meets_100 : decode b_M_meets 100 = .ok (.iconst 2, 1) := by decide +kernel
theorem d_M_meets_101 : decode b_M_meets 101 = .ok (.iload_n 3, 1) := by decide +kernel
theorem d_M_meets_102 : decode b_M_meets 102 = .ok (.imul, 1) := by decide +kernel
theorem d_M_meets_103 : decode b_M_meets 103 = .ok (.iconst 1, 1) := by decide +kernel
theorem d_M_meets_104 : decode b_M_meets 104 = .ok (.iadd, 1) := by decide +kernel
theorem d_M_meets_105 : decode b_M_meets 105 = .ok (.iload 9, 2) := by decide +kernel
theorem d_M_meets_107 : decode b_M_meets 107 = .ok (.imul, 1) := by decide +kernel
theorem d_M_meets_108 : decode b_M_meets 108 = .ok (.isub, 1) := by decide +kernel
theorem d_M_meets_109 : decode b_M_meets 109 = .ok (.istore 10, 2) := by decide +kernel
theorem d_M_meets_111 : decode b_M_meets 111 = .ok (.iload 9, 2) := by decide +kernel
theorem d_M_meets_113 : decode b_M_meets 113 = .ok (.ifCond .le 16, 3) := by decide +kernel
theorem d_M_meets_116 : decode b_M_meets 116 = .ok (.iload 10, 2) := by decide +kernel
theorem d_M_meets_118 : decode b_M_meets 118 = .ok (.ifCond .le 7, 3) := by decide +kernel
theorem d_M_meets_121 : decode b_M_meets 121 = .ok (.iconst 1, 1) := by decide +kernel
theorem d_M_meets_122 : decode b_M_meets 122 = .ok (.goto 17, 3) := by decide +kernel
theorem d_M_meets_125 : decode b_M_meets 125 = .ok (.iconst 0, 1) := by decide +kernel
theorem d_M_meets_126 : decode b_M_meets 126 = .ok (.goto 13, 3) := by decide +kernel
theorem d_M_meets_129 : decode b_M_meets 129 = .ok (.iload 10, 2) := by decide +kernel
theorem d_M_meets_131 : decode b_M_meets 131 = .ok (.ifCond .ge 7, 3) := by decide +kernel
theorem d_M_meets_134 : decode b_M_meets 134 = .ok (.iconst 1, 1) := by decide +kernel
theorem d_M_meets_135 : decode b_M_meets 135 = .ok (.goto 4, 3) := by decide +kernel
theorem d_M_meets_138 : decode b_M_meets 138 = .ok (.iconst 0, 1) := by decide +kernel
theorem d_M_meets_139 : decode b_M_meets 139 = .ok (.ireturn, 1) := by decide +kernel
theorem d_M_copy_0 : decode b_M_copy 0 = .ok (.aload_n 0, 1) := by decide +kernel
theorem d_M_copy_1 : decode b_M_copy 1 = .ok (.iload_n 1, 1) := by decide +kernel
theorem d_M_copy_2 : decode b_M_copy 2 = .ok (.invokevirtual 97, 3) := by decide +kernel
theorem d_M_copy_5 : decode b_M_copy 5 = .ok (.ifCond .eq 78, 3) := by decide +kernel
theorem d_M_copy_8 : decode b_M_copy 8 = .ok (.iload_n 2, 1) := by decide +kernel
theorem d_M_copy_9 : decode b_M_copy 9 = .ok (.invokestatic 102, 3) := by decide +kernel
theorem d_M_copy_12 : decode b_M_copy 12 = .ok (.ifCond .eq 71, 3) := by decide +kernel
theorem d_M_copy_15 : decode b_M_copy 15 = .ok (.aload_n 0, 1) := by decide +kernel
theorem d_M_copy_16 : decode b_M_copy 16 = .ok (.iload_n 3, 1) := by decide +kernel
theorem d_M_copy_17 : decode b_M_copy 17 = .ok (.invokevirtual 93, 3) := by decide +kernel
theorem d_M_copy_20 : decode b_M_copy 20 = .ok (.ifCond .eq 63, 3) := by decide +kernel
theorem d_M_copy_23 : decode b_M_copy 23 = .ok (.iload 4, 2) := by decide +kernel
theorem d_M_copy_25 : decode b_M_copy 25 = .ok (.invokestatic 102, 3) := by decide +kernel
theorem d_M_copy_28 : decode b_M_copy 28 = .ok (.ifCond .eq 55, 3) := by decide +kernel
theorem d_M_copy_31 : decode b_M_copy 31 = .ok (.iload 5, 2) := by decide +kernel
theorem d_M_copy_33 : decode b_M_copy 33 = .ok (.ifCond .lt 50, 3) := by decide +kernel
theorem d_M_copy_36 : decode b_M_copy 36 = .ok (.iload 6, 2) := by decide +kernel
theorem d_M_copy_38 : decode b_M_copy 38 = .ok (.ifCond .lt 45, 3) := by decide +kernel
theorem d_M_copy_41 : decode b_M_copy 41 = .ok (.iload 5, 2) := by decide +kernel
theorem d_M_copy_43 : decode b_M_copy 43 = .ok (.bipush 32, 2) := by decide +kernel
theorem d_M_copy_45 : decode b_M_copy 45 = .ok (.if_icmp .ge 38, 3) := by decide +kernel
theorem d_M_copy_48 : decode b_M_copy 48 = .ok (.iload 6, 2) := by decide +kernel
theorem d_M_copy_50 : decode b_M_copy 50 = .ok (.bipush 32, 2) := by decide +kernel
theorem d_M_copy_52 : decode b_M_copy 52 = .ok (.if_icmp .ge 31, 3) := by decide +kernel
theorem d_M_copy_55 : decode b_M_copy 55 = .ok (.aload_n 0, 1) := by decide +kernel
theorem d_M_copy_56 : decode b_M_copy 56 = .ok (.getfield 58, 3) := by decide +kernel
theorem d_M_copy_59 : decode b_M_copy 59 = .ok (.bipush 32, 2) := by decide +kernel
theorem d_M_copy_61 : decode b_M_copy 61 = .ok (.iload 5, 2) := by decide +kernel
theorem d_M_copy_63 : decode b_M_copy 63 = .ok (.isub, 1) := by decide +kernel
theorem d_M_copy_64 : decode b_M_copy 64 = .ok (.if_icmp .gt 19, 3) := by decide +kernel
theorem d_M_copy_67 : decode b_M_copy 67 = .ok (.aload_n 0, 1) := by decide +kernel
theorem d_M_copy_68 : decode b_M_copy 68 = .ok (.getfield 61, 3) := by decide +kernel
theorem d_M_copy_71 : decode b_M_copy 71 = .ok (.bipush 32, 2) := by decide +kernel
theorem d_M_copy_73 : decode b_M_copy 73 = .ok (.iload 6, 2) := by decide +kernel
theorem d_M_copy_75 : decode b_M_copy 75 = .ok (.isub, 1) := by decide +kernel
theorem d_M_copy_76 : decode b_M_copy 76 = .ok (.if_icmp .gt 7, 3) := by decide +kernel
theorem d_M_copy_79 : decode b_M_copy 79 = .ok (.iconst 1, 1) := by decide +kernel
theorem d_M_copy_80 : decode b_M_copy 80 = .ok (.goto 4, 3) := by decide +kernel
theorem d_M_copy_83 : decode b_M_copy 83 = .ok (.iconst 0, 1) := by decide +kernel
theorem d_M_copy_84 : decode b_M_copy 84 = .ok (.istore 7, 2) := by decide +kernel
theorem d_M_copy_86 : decode b_M_copy 86 = .ok (.aload_n 0, 1) := by decide +kernel
theorem d_M_copy_87 : decode b_M_copy 87 = .ok (.iload 7, 2) := by decide +kernel
theorem d_M_copy_89 : decode b_M_copy 89 = .ok (.ifCond .ne 7, 3) := by decide +kernel
theorem d_M_copy_92 : decode b_M_copy 92 = .ok (.iconst 1, 1) := by decide +kernel
theorem d_M_copy_93 : decode b_M_copy 93 = .ok (.goto 4, 3) := by decide +kernel
theorem d_M_copy_96 : decode b_M_copy 96 = .ok (.iconst 0, 1) := by decide +kernel
theorem d_M_copy_97 : decode b_M_copy 97 = .ok (.invokevirtual 119, 3) := by decide +kernel
theorem d_M_copy_100 : decode b_M_copy 100 = .ok (.ifCond .eq 4, 3) := by decide +kernel
theorem d_M_copy_103 : decode b_M_copy 103 = .ok (.return_, 1) := by decide +kernel
theorem d_M_copy_104 : decode b_M_copy 104 = .ok (.iconst 0, 1) := by decide +kernel
theorem d_M_copy_105 : decode b_M_copy 105 = .ok (.istore 8, 2) := by decide +kernel
theorem d_M_copy_107 : decode b_M_copy 107 = .ok (.iload 8, 2) := by decide +kernel
theorem d_M_copy_109 : decode b_M_copy 109 = .ok (.aload_n 0, 1) := by decide +kernel
theorem d_M_copy_110 : decode b_M_copy 110 = .ok (.getfield 61, 3) := by decide +kernel
theorem d_M_copy_113 : decode b_M_copy 113 = .ok (.if_icmp .ge 107, 3) := by decide +kernel
theorem d_M_copy_116 : decode b_M_copy 116 = .ok (.iconst 0, 1) := by decide +kernel
theorem d_M_copy_117 : decode b_M_copy 117 = .ok (.istore 9, 2) := by decide +kernel
theorem d_M_copy_119 : decode b_M_copy 119 = .ok (.iload 9, 2) := by decide +kernel
theorem d_M_copy_121 : decode b_M_copy 121 = .ok (.aload_n 0, 1) := by decide +kernel
theorem d_M_copy_122 : decode b_M_copy 122 = .ok (.getfield 58, 3) := by decide +kernel
theorem d_M_copy_125 : decode b_M_copy 125 = .ok (.if_icmp .ge 89, 3) := by decide +kernel
theorem d_M_copy_128 : decode b_M_copy 128 = .ok (.sipush 4096, 3) := by decide +kernel
theorem d_M_copy_131 : decode b_M_copy 131 = .ok (.iload_n 3, 1) := by decide +kernel
theorem d_M_copy_132 : decode b_M_copy 132 = .ok (.imul, 1) := by decide +kernel
theorem d_M_copy_133 : decode b_M_copy 133 = .ok (.iload 4, 2) := by decide +kernel
theorem d_M_copy_135 : decode b_M_copy 135 = .ok (.aload_n 0, 1) := by decide +kernel
theorem d_M_copy_136 : decode b_M_copy 136 = .ok (.getfield 109, 3) := by decide +kernel
theorem d_M_copy_139 : decode b_M_copy 139 = .ok (.iload 9, 2) := by decide +kernel
theorem d_M_copy_141 : decode b_M_copy 141 = .ok (.iadd, 1) := by decide +kernel
theorem d_M_copy_142 : decode b_M_copy 142 = .ok (.aload_n 0, 1) := by decide +kernel
theorem d_M_copy_143 : decode b_M_copy 143 = .ok (.getfield 112, 3) := by decide +kernel
theorem d_M_copy_146 : decode b_M_copy 146 = .ok (.iload 8, 2) := by decide +kernel
theorem d_M_copy_148 : decode b_M_copy 148 = .ok (.iadd, 1) := by decide +kernel
theorem d_M_copy_149 : decode b_M_copy 149 = .ok (.invokestatic 123, 3) := by decide +kernel
theorem d_M_copy_152 : decode b_M_copy 152 = .ok (.iadd, 1) := by decide +kernel
theorem d_M_copy_153 : decode b_M_copy 153 = .ok (.istore 10, 2) := by decide +kernel
theorem d_M_copy_155 : decode b_M_copy 155 = .ok (.sipush 4096, 3) := by decide +kernel
theorem d_M_copy_158 : decode b_M_copy 158 = .ok (.bipush 24, 2) := by decide +kernel
theorem d_M_copy_160 : decode b_M_copy 160 = .ok (.iload_n 1, 1) := by decide +kernel
theorem d_M_copy_161 : decode b_M_copy 161 = .ok (.iadd, 1) := by decide +kernel
theorem d_M_copy_162 : decode b_M_copy 162 = .ok (.imul, 1) := by decide +kernel
theorem d_M_copy_163 : decode b_M_copy 163 = .ok (.iload_n 2, 1) := by decide +kernel
theorem d_M_copy_164 : decode b_M_copy 164 = .ok (.iload 5, 2) := by decide +kernel
theorem d_M_copy_166 : decode b_M_copy 166 = .ok (.iload 9, 2) := by decide +kernel
theorem d_M_copy_168 : decode b_M_copy 168 = .ok (.iadd, 1) := by decide +kernel
theorem d_M_copy_169 : decode b_M_copy 169 = .ok (.iload 6, 2) := by decide +kernel
theorem d_M_copy_171 : decode b_M_copy 171 = .ok (.iload 8, 2) := by decide +kernel
theorem d_M_copy_173 : decode b_M_copy 173 = .ok (.iadd, 1) := by decide +kernel
theorem d_M_copy_174 : decode b_M_copy 174 = .ok (.invokestatic 123, 3) := by decide +kernel
theorem d_M_copy_177 : decode b_M_copy 177 = .ok (.iadd, 1) := by decide +kernel
theorem d_M_copy_178 : decode b_M_copy 178 = .ok (.istore 11, 2) := by decide +kernel
theorem d_M_copy_180 : decode b_M_copy 180 = .ok (.aload_n 0, 1) := by decide +kernel
theorem d_M_copy_181 : decode b_M_copy 181 = .ok (.getfield 8, 3) := by decide +kernel
theorem d_M_copy_184 : decode b_M_copy 184 = .ok (.iload 11, 2) := by decide +kernel
theorem d_M_copy_186 : decode b_M_copy 186 = .ok (.aload_n 0, 1) := by decide +kernel
theorem d_M_copy_187 : decode b_M_copy 187 = .ok (.getfield 8, 3) := by decide +kernel
theorem d_M_copy_190 : decode b_M_copy 190 = .ok (.iload 10, 2) := by decide +kernel
theorem d_M_copy_192 : decode b_M_copy 192 = .ok (.iaload, 1) := by decide +kernel
theorem d_M_copy_193 : decode b_M_copy 193 = .ok (.iastore, 1) := by decide +kernel
theorem d_M_copy_194 : decode b_M_copy 194 = .ok (.aload_n 0, 1) := by decide +kernel
theorem d_M_copy_195 : decode b_M_copy 195 = .ok (.getfield 14, 3) := by decide +kernel
theorem d_M_copy_198 : decode b_M_copy 198 = .ok (.iload 11, 2) := by decide +kernel
theorem d_M_copy_200 : decode b_M_copy 200 = .ok (.aload_n 0, 1) := by decide +kernel
theorem d_M_copy_201 : decode b_M_copy 201 = .ok (.getfield 14, 3) := by decide +kernel
theorem d_M_copy_204 : decode b_M_copy 204 = .ok (.iload 10, 2) := by decide +kernel
theorem d_M_copy_206 : decode b_M_copy 206 = .ok (.iaload, 1) := by decide +kernel
theorem d_M_copy_207 : decode b_M_copy 207 = .ok (.iastore, 1) := by decide +kernel
theorem d_M_copy_208 : decode b_M_copy 208 = .ok (.iinc 9 1, 3) := by decide +kernel
theorem d_M_copy_211 : decode b_M_copy 211 = .ok (.goto (-92), 3) := by decide +kernel
theorem d_M_copy_214 : decode b_M_copy 214 = .ok (.iinc 8 1, 3) := by decide +kernel
theorem d_M_copy_217 : decode b_M_copy 217 = .ok (.goto (-110), 3) := by decide +kernel
theorem d_M_copy_220 : decode b_M_copy 220 = .ok (.return_, 1) := by decide +kernel
theorem d_M_entry_0 : decode b_M_entry 0 = .ok (.aload_n 0, 1) := by decide +kernel
theorem d_M_entry_1 : decode b_M_entry 1 = .ok (.iconst 0, 1) := by decide +kernel
theorem d_M_entry_2 : decode b_M_entry 2 = .ok (.putfield 90, 3) := by decide +kernel
theorem d_M_entry_5 : decode b_M_entry 5 = .ok (.iload_n 1, 1) := by decide +kernel
theorem d_M_entry_6 : decode b_M_entry 6 = .ok (.ifCond .lt 23, 3) := by decide +kernel
theorem d_M_entry_9 : decode b_M_entry 9 = .ok (.iload_n 1, 1) := by decide +kernel
theorem d_M_entry_10 : decode b_M_entry 10 = .ok (.bipush 7, 2) := by decide +kernel
theorem d_M_entry_12 : decode b_M_entry 12 = .ok (.if_icmp .gt 17, 3) := by decide +kernel
theorem d_M_entry_15 : decode b_M_entry 15 = .ok (.iload_n 2, 1) := by decide +kernel
theorem d_M_entry_16 : decode b_M_entry 16 = .ok (.invokestatic 116, 3) := by decide +kernel
theorem d_M_entry_19 : decode b_M_entry 19 = .ok (.ifCond .eq 10, 3) := by decide +kernel
theorem d_M_entry_22 : decode b_M_entry 22 = .ok (.iload_n 3, 1) := by decide +kernel
theorem d_M_entry_23 : decode b_M_entry 23 = .ok (.invokestatic 116, 3) := by decide +kernel
theorem d_M_entry_26 : decode b_M_entry 26 = .ok (.ifCond .ne 5, 3) := by decide +kernel
theorem d_M_entry_29 : decode b_M_entry 29 = .ok (.iconst 0, 1) := by decide +kernel
theorem d_M_entry_30 : decode b_M_entry 30 = .ok (.ireturn, 1) := by decide +kernel
theorem d_M_entry_31 : decode b_M_entry 31 = .ok (.aload_n 0, 1) := by decide +kernel
theorem d_M_entry_32 : decode b_M_entry 32 = .ok (.getfield 70, 3) := by decide +kernel
theorem d_M_entry_35 : decode b_M_entry 35 = .ok (.iload_n 1, 1) := by decide +kernel
theorem d_M_entry_36 : decode b_M_entry 36 = .ok (.iload_n 2, 1) := by decide +kernel
theorem d_M_entry_37 : decode b_M_entry 37 = .ok (.iastore, 1) := by decide +kernel
theorem d_M_entry_38 : decode b_M_entry 38 = .ok (.aload_n 0, 1) := by decide +kernel
theorem d_M_entry_39 : decode b_M_entry 39 = .ok (.getfield 73, 3) := by decide +kernel
theorem d_M_entry_42 : decode b_M_entry 42 = .ok (.iload_n 1, 1) := by decide +kernel
theorem d_M_entry_43 : decode b_M_entry 43 = .ok (.iload_n 3, 1) := by decide +kernel
theorem d_M_entry_44 : decode b_M_entry 44 = .ok (.iastore, 1) := by decide +kernel
theorem d_M_entry_45 : decode b_M_entry 45 = .ok (.iconst 1, 1) := by decide +kernel
theorem d_M_entry_46 : decode b_M_entry 46 = .ok (.ireturn, 1) := by decide +kernel
theorem d_M_map_0 : decode b_M_map 0 = .ok (.aload_n 0, 1) := by decide +kernel
theorem d_M_map_1 : decode b_M_map 1 = .ok (.aload_n 0, 1) := by decide +kernel
theorem d_M_map_2 : decode b_M_map 2 = .ok (.iload_n 1, 1) := by decide +kernel
theorem d_M_map_3 : decode b_M_map 3 = .ok (.invokevirtual 97, 3) := by decide +kernel
theorem d_M_map_6 : decode b_M_map 6 = .ok (.ifCond .eq 10, 3) := by decide +kernel
theorem d_M_map_9 : decode b_M_map 9 = .ok (.iload_n 2, 1) := by decide +kernel
theorem d_M_map_10 : decode b_M_map 10 = .ok (.invokestatic 102, 3) := by decide +kernel
theorem d_M_map_13 : decode b_M_map 13 = .ok (.ifCond .ne 7, 3) := by decide +kernel
theorem d_M_map_16 : decode b_M_map 16 = .ok (.iconst 1, 1) := by decide +kernel
theorem d_M_map_17 : decode b_M_map 17 = .ok (.goto 4, 3) := by decide +kernel
theorem d_M_map_20 : decode b_M_map 20 = .ok (.iconst 0, 1) := by decide +kernel
theorem d_M_map_21 : decode b_M_map 21 = .ok (.invokevirtual 119, 3) := by decide +kernel
theorem d_M_map_24 : decode b_M_map 24 = .ok (.ifCond .eq 4, 3) := by decide +kernel
theorem d_M_map_27 : decode b_M_map 27 = .ok (.return_, 1) := by decide +kernel
theorem d_M_map_28 : decode b_M_map 28 = .ok (.aload_n 0, 1) := by decide +kernel
theorem d_M_map_29 : decode b_M_map 29 = .ok (.getfield 112, 3) := by decide +kernel
theorem d_M_map_32 : decode b_M_map 32 = .ok (.istore_n 3, 1) := by decide +kernel
theorem d_M_map_33 : decode b_M_map 33 = .ok (.iload_n 3, 1) := by decide +kernel
theorem d_M_map_34 : decode b_M_map 34 = .ok (.aload_n 0, 1) := by decide +kernel
theorem d_M_map_35 : decode b_M_map 35 = .ok (.getfield 112, 3) := by decide +kernel
theorem d_M_map_38 : decode b_M_map 38 = .ok (.aload_n 0, 1) := by decide +kernel
theorem d_M_map_39 : decode b_M_map 39 = .ok (.getfield 61, 3) := by decide +kernel
theorem d_M_map_42 : decode b_M_map 42 = .ok (.iadd, 1) := by decide +kernel
theorem d_M_map_43 : decode b_M_map 43 = .ok (.if_icmp .ge 135, 3) := by decide +kernel
theorem d_M_map_46 : decode b_M_map 46 = .ok (.aload_n 0, 1) := by decide +kernel
theorem d_M_map_47 : decode b_M_map 47 = .ok (.getfield 109, 3) := by decide +kernel
theorem d_M_map_50 : decode b_M_map 50 = .ok (.istore 4, 2) := by decide +kernel
theorem d_M_map_52 : decode b_M_map 52 = .ok (.iload 4, 2) := by decide +kernel
theorem d_M_map_54 : decode b_M_map 54 = .ok (.aload_n 0, 1) := by decide +kernel
theorem d_M_map_55 : decode b_M_map 55 = .ok (.getfield 109, 3) := by decide +kernel
theorem d_M_map_58 : decode b_M_map 58 = .ok (.aload_n 0, 1) := by decide +kernel
theorem d_M_map_59 : decode b_M_map 59 = .ok (.getfield 58, 3) := by decide +kernel
theorem d_M_map_62 : decode b_M_map 62 = .ok (.iadd, 1) := by decide +kernel
theorem d_M_map_63 : decode b_M_map 63 = .ok (.if_icmp .ge 109, 3) := by decide +kernel
theorem d_M_map_66 : decode b_M_map 66 = .ok (.iload_n 2, 1) := by decide +kernel
theorem d_M_map_67 : decode b_M_map 67 = .ok (.iload 4, 2) := by decide +kernel
theorem d_M_map_69 : decode b_M_map 69 = .ok (.iload_n 3, 1) := by decide +kernel
theorem d_M_map_70 : decode b_M_map 70 = .ok (.invokestatic 123, 3) := by decide +kernel
theorem d_M_map_73 : decode b_M_map 73 = .ok (.istore 5, 2) := by decide +kernel
theorem d_M_map_75 : decode b_M_map 75 = .ok (.aload_n 0, 1) := by decide +kernel
theorem d_M_map_76 : decode b_M_map 76 = .ok (.getfield 8, 3) := by decide +kernel
theorem d_M_map_79 : decode b_M_map 79 = .ok (.sipush 4096, 3) := by decide +kernel
theorem d_M_map_82 : decode b_M_map 82 = .ok (.bipush 24, 2) := by decide +kernel
theorem d_M_map_84 : decode b_M_map 84 = .ok (.iload_n 1, 1) := by decide +kernel
theorem d_M_map_85 : decode b_M_map 85 = .ok (.iadd, 1) := by decide +kernel
theorem d_M_map_86 : decode b_M_map 86 = .ok (.imul, 1) := by decide +kernel
theorem d_M_map_87 : decode b_M_map 87 = .ok (.iload 5, 2) := by decide +kernel
theorem d_M_map_89 : decode b_M_map 89 = .ok (.iadd, 1) := by decide +kernel
theorem d_M_map_90 : decode b_M_map 90 = .ok (.iaload, 1) := by decide +kernel
theorem d_M_map_91 : decode b_M_map 91 = .ok (.istore 6, 2) := by decide +kernel
theorem d_M_map_93 : decode b_M_map 93 = .ok (.bipush 8, 2) := by decide +kernel
theorem d_M_map_95 : decode b_M_map 95 = .ok (.istore 7, 2) := by decide +kernel
theorem d_M_map_97 : decode b_M_map 97 = .ok (.bipush 7, 2) := by decide +kernel
theorem d_M_map_99 : decode b_M_map 99 = .ok (.istore 8, 2) := by decide +kernel
theorem d_M_map_101 : decode b_M_map 101 = .ok (.iload 8, 2) := by decide +kernel
theorem d_M_map_103 : decode b_M_map 103 = .ok (.ifCond .lt 30, 3) := by decide +kernel
theorem d_M_map_106 : decode b_M_map 106 = .ok (.aload_n 0, 1) := by decide +kernel
theorem d_M_map_107 : decode b_M_map 107 = .ok (.getfield 70, 3) := by decide +kernel
theorem d_M_map_110 : decode b_M_map 110 = .ok (.iload 8, 2) := by decide +kernel
theorem d_M_map_112 : decode b_M_map 112 = .ok (.iaload, 1) := by decide +kernel
theorem d_M_map_113 : decode b_M_map 113 = .ok (.iload 6, 2) := by decide +kernel
theorem d_M_map_115 : decode b_M_map 115 = .ok (.if_icmp .ne 8, 3) := by decide +kernel
theorem d_M_map_118 : decode b_M_map 118 = .ok (.iload 8, 2) := by decide +kernel
theorem d_M_map_120 : decode b_M_map 120 = .ok (.goto 5, 3) := by decide +kernel
theorem d_M_map_123 : decode b_M_map 123 = .ok (.iload 7, 2) := by decide +kernel
theorem d_M_map_125 : decode b_M_map 125 = .ok (.istore 7, 2) := by decide +kernel
theorem d_M_map_127 : decode b_M_map 127 = .ok (.iinc 8 (-1), 3) := by decide +kernel
theorem d_M_map_130 : decode b_M_map 130 = .ok (.goto (-29), 3) := by decide +kernel
theorem d_M_map_133 : decode b_M_map 133 = .ok (.iload 7, 2) := by decide +kernel
theorem d_M_map_135 : decode b_M_map 135 = .ok (.bipush 8, 2) := by decide +kernel
theorem d_M_map_137 : decode b_M_map 137 = .ok (.if_icmp .ge 29, 3) := by decide +kernel
theorem d_M_map_140 : decode b_M_map 140 = .ok (.aload_n 0, 1) := by decide +kernel
theorem d_M_map_141 : decode b_M_map 141 = .ok (.getfield 73, 3) := by decide +kernel
theorem d_M_map_144 : decode b_M_map 144 = .ok (.iload 7, 2) := by decide +kernel
theorem d_M_map_146 : decode b_M_map 146 = .ok (.iaload, 1) := by decide +kernel
theorem d_M_map_147 : decode b_M_map 147 = .ok (.iload 6, 2) := by decide +kernel
theorem d_M_map_149 : decode b_M_map 149 = .ok (.if_icmp .eq 17, 3) := by decide +kernel
theorem d_M_map_152 : decode b_M_map 152 = .ok (.aload_n 0, 1) := by decide +kernel
theorem d_M_map_153 : decode b_M_map 153 = .ok (.iload_n 1, 1) := by decide +kernel
theorem d_M_map_154 : decode b_M_map 154 = .ok (.iload 5, 2) := by decide +kernel
theorem d_M_map_156 : decode b_M_map 156 = .ok (.aload_n 0, 1) := by decide +kernel
theorem d_M_map_157 : decode b_M_map 157 = .ok (.getfield 73, 3) := by decide +kernel
theorem d_M_map_160 : decode b_M_map 160 = .ok (.iload 7, 2) := by decide +kernel
theorem d_M_map_162 : decode b_M_map 162 = .ok (.iaload, 1) := by decide +kernel
theorem d_M_map_163 : decode b_M_map 163 = .ok (.invokevirtual 127, 3) := by decide +kernel
theorem d_M_map_166 : decode b_M_map 166 = .ok (.iinc 4 1, 3) := by decide +kernel
theorem d_M_map_169 : decode b_M_map 169 = .ok (.goto (-117), 3) := by decide +kernel
theorem d_M_map_172 : decode b_M_map 172 = .ok (.iinc 3 1, 3) := by decide +kernel
theorem d_M_map_175 : decode b_M_map 175 = .ok (.goto (-142), 3) := by decide +kernel
theorem d_M_map_178 : decode b_M_map 178 = .ok (.return_, 1) := by decide +kernel
theorem d_M_combine_0 : decode b_M_combine 0 = .ok (.aload_n 0, 1) := by decide +kernel
theorem d_M_combine_1 : decode b_M_combine 1 = .ok (.aload_n 0, 1) := by decide +kernel
theorem d_M_combine_2 : decode b_M_combine 2 = .ok (.iload_n 1, 1) := by decide +kernel
theorem d_M_combine_3 : decode b_M_combine 3 = .ok (.invokevirtual 97, 3) := by decide +kernel
theorem d_M_combine_6 : decode b_M_combine 6 = .ok (.ifCond .eq 28, 3) := by decide +kernel
theorem d_M_combine_9 : decode b_M_combine 9 = .ok (.iload_n 2, 1) := by decide +kernel
theorem d_M_combine_10 : decode b_M_combine 10 = .ok (.invokestatic 102, 3) := by decide +kernel
theorem d_M_combine_13 : decode b_M_combine 13 = .ok (.ifCond .eq 21, 3) := by decide +kernel
theorem d_M_combine_16 : decode b_M_combine 16 = .ok (.iload_n 3, 1) := by decide +kernel
theorem d_M_combine_17 : decode b_M_combine 17 = .ok (.invokestatic 102, 3) := by decide +kernel
theorem d_M_combine_20 : decode b_M_combine 20 = .ok (.ifCond .eq 14, 3) := by decide +kernel
theorem d_M_combine_23 : decode b_M_combine 23 = .ok (.iload 4, 2) := by decide +kernel
theorem d_M_combine_25 : decode b_M_combine 25 = .ok (.ifCond .lt 9, 3) := by decide +kernel
theorem d_M_combine_28 : decode b_M_combine 28 = .ok (.iload 4, 2) := by decide +kernel
theorem d_M_combine_30 : decode b_M_combine 30 = .ok (.iconst 2, 1) := by decide +kernel
theorem d_M_combine_31 : decode b_M_combine 31 = .ok (.if_icmp .le 7, 3) := by decide +kernel
theorem d_M_combine_34 : decode b_M_combine 34 = .ok (.iconst 1, 1) := by decide +kernel
theorem d_M_combine_35 : decode b_M_combine 35 = .ok (.goto 4, 3) := by decide +kernel
theorem d_M_combine_38 : decode b_M_combine 38 = .ok (.iconst 0, 1) := by decide +kernel
theorem d_M_combine_39 : decode b_M_combine 39 = .ok (.invokevirtual 119, 3) := by decide +kernel
theorem d_M_combine_42 : decode b_M_combine 42 = .ok (.ifCond .eq 4, 3) := by decide +kernel
theorem d_M_combine_45 : decode b_M_combine 45 = .ok (.return_, 1) := by decide +kernel
theorem d_M_combine_46 : decode b_M_combine 46 = .ok (.aload_n 0, 1) := by decide +kernel
theorem d_M_combine_47 : decode b_M_combine 47 = .ok (.getfield 112, 3) := by decide +kernel
theorem d_M_combine_50 : decode b_M_combine 50 = .ok (.istore 5, 2) := by decide +kernel
theorem d_M_combine_52 : decode b_M_combine 52 = .ok (.iload 5, 2) := by decide +kernel
theorem d_M_combine_54 : decode b_M_combine 54 = .ok (.aload_n 0, 1) := by decide +kernel
theorem d_M_combine_55 : decode b_M_combine 55 = .ok (.getfield 112, 3) := by decide +kernel
theorem d_M_combine_58 : decode b_M_combine 58 = .ok (.aload_n 0, 1) := by decide +kernel
theorem d_M_combine_59 : decode b_M_combine 59 = .ok (.getfield 61, 3) := by decide +kernel
theorem d_M_combine_62 : decode b_M_combine 62 = .ok (.iadd, 1) := by decide +kernel
theorem d_M_combine_63 : decode b_M_combine 63 = .ok (.if_icmp .ge 211, 3) := by decide +kernel
theorem d_M_combine_66 : decode b_M_combine 66 = .ok (.aload_n 0, 1) := by decide +kernel
theorem d_M_combine_67 : decode b_M_combine 67 = .ok (.getfield 109, 3) := by decide +kernel
theorem d_M_combine_70 : decode b_M_combine 70 = .ok (.istore 6, 2) := by decide +kernel
theorem d_M_combine_72 : decode b_M_combine 72 = .ok (.iload 6, 2) := by decide +kernel
theorem d_M_combine_74 : decode b_M_combine 74 = .ok (.aload_n 0, 1) := by decide +kernel
theorem d_M_combine_75 : decode b_M_combine 75 = .ok (.getfield 109, 3) := by decide +kernel
theorem d_M_combine_78 : decode b_M_combine 78 = .ok (.aload_n 0, 1) := by decide +kernel
theorem d_M_combine_79 : decode b_M_combine 79 = .ok (.getfield 58, 3) := by decide +kernel
theorem d_M_combine_82 : decode b_M_combine 82 = .ok (.iadd, 1) := by decide +kernel
theorem d_M_combine_83 : decode b_M_combine 83 = .ok (.if_icmp .ge 185, 3) := by decide +kernel
theorem d_M_combine_86 : decode b_M_combine 86 = .ok (.iload_n 2, 1) := by decide +kernel
theorem d_M_combine_87 : decode b_M_combine 87 = .ok (.iload 6, 2) := by decide +kernel
theorem d_M_combine_89 : decode b_M_combine 89 = .ok (.iload 5, 2) := by decide +kernel
theorem d_M_combine_91 : decode b_M_combine 91 = .ok (.invokestatic 123, 3) := by decide +kernel
theorem d_M_combine_94 : decode b_M_combine 94 = .ok (.istore 7, 2) := by decide +kernel
theorem d_M_combine_96 : decode b_M_combine 96 = .ok (.aload_n 0, 1) := by decide +kernel
theorem d_M_combine_97 : decode b_M_combine 97 = .ok (.getfield 8, 3) := by decide +kernel
theorem d_M_combine_100 : decode b_M_combine 100 = .ok (.sipush 4096, 3) := by decide +kernel
theorem d_M_combine_103 : decode b_M_combine 103 = .ok (.bipush 24, 2) := by decide +kernel
theorem d_M_combine_105 : decode b_M_combine 105 = .ok (.iload_n 1, 1) := by decide +kernel
theorem d_M_combine_106 : decode b_M_combine 106 = .ok (.iadd, 1) := by decide +kernel
theorem d_M_combine_107 : decode b_M_combine 107 = .ok (.imul, 1) := by decide +kernel
theorem d_M_combine_108 : decode b_M_combine 108 = .ok (.iload 7, 2) := by decide +kernel
theorem d_M_combine_110 : decode b_M_combine 110 = .ok (.iadd, 1) := by decide +kernel
theorem d_M_combine_111 : decode b_M_combine 111 = .ok (.iaload, 1) := by decide +kernel
theorem d_M_combine_112 : decode b_M_combine 112 = .ok (.istore 8, 2) := by decide +kernel
theorem d_M_combine_114 : decode b_M_combine 114 = .ok (.aload_n 0, 1) := by decide +kernel
theorem d_M_combine_115 : decode b_M_combine 115 = .ok (.getfield 8, 3) := by decide +kernel
theorem d_M_combine_118 : decode b_M_combine 118 = .ok (.sipush 4096, 3) := by decide +kernel
theorem d_M_combine_121 : decode b_M_combine 121 = .ok (.bipush 24, 2) := by decide +kernel
theorem d_M_combine_123 : decode b_M_combine 123 = .ok (.iload_n 1, 1) := by decide +kernel
theorem d_M_combine_124 : decode b_M_combine 124 = .ok (.iadd, 1) := by decide +kernel
theorem d_M_combine_125 : decode b_M_combine 125 = .ok (.imul, 1) := by decide +kernel
theorem d_M_combine_126 : decode b_M_combine 126 = .ok (.iload_n 3, 1) := by decide +kernel
theorem d_M_combine_127 : decode b_M_combine 127 = .ok (.iload 6, 2) := by decide +kernel
theorem d_M_combine_129 : decode b_M_combine 129 = .ok (.iload 5, 2) := by decide +kernel
theorem d_M_combine_131 : decode b_M_combine 131 = .ok (.invokestatic 123, 3) := by decide +kernel
theorem d_M_combine_134 : decode b_M_combine 134 = .ok (.iadd, 1) := by decide +kernel
theorem d_M_combine_135 : decode b_M_combine 135 = .ok (.iaload, 1) := by decide +kernel
theorem d_M_combine_136 : decode b_M_combine 136 = .ok (.istore 9, 2) := by decide +kernel
theorem d_M_combine_138 : decode b_M_combine 138 = .ok (.iload 9, 2) := by decide +kernel
theorem d_M_combine_140 : decode b_M_combine 140 = .ok (.ldc 89, 2) := by decide +kernel
theorem d_M_combine_142 : decode b_M_combine 142 = .ok (.if_icmp .ne 6, 3) := by decide +kernel
theorem d_M_combine_145 : decode b_M_combine 145 = .ok (.goto 117, 3) := by decide +kernel
theorem d_M_combine_148 : decode b_M_combine 148 = .ok (.iload 8, 2) := by decide +kernel
theorem d_M_combine_150 : decode b_M_combine 150 = .ok (.iload 9, 2) := by decide +kernel
theorem d_M_combine_152 : decode b_M_combine 152 = .ok (.iadd, 1) := by decide +kernel
theorem d_M_combine_153 : decode b_M_combine 153 = .ok (.ldc 101, 2) := by decide +kernel
theorem d_M_combine_155 : decode b_M_combine 155 = .ok (.if_icmp .le 8, 3) := by decide +kernel
theorem d_M_combine_158 : decode b_M_combine 158 = .ok (.ldc 101, 2) := by decide +kernel
theorem d_M_combine_160 : decode b_M_combine 160 = .ok (.goto 23, 3) := by decide +kernel
theorem d_M_combine_163 : decode b_M_combine 163 = .ok (.iload 8, 2) := by decide +kernel
theorem d_M_combine_165 : decode b_M_combine 165 = .ok (.iload 9, 2) := by decide +kernel
theorem d_M_combine_167 : decode b_M_combine 167 = .ok (.iadd, 1) := by decide +kernel
theorem d_M_combine_168 : decode b_M_combine 168 = .ok (.ldc 100, 2) := by decide +kernel
theorem d_M_combine_170 : decode b_M_combine 170 = .ok (.if_icmp .ge 8, 3) := by decide +kernel
theorem d_M_combine_173 : decode b_M_combine 173 = .ok (.ldc 100, 2) := by decide +kernel
theorem d_M_combine_175 : decode b_M_combine 175 = .ok (.goto 8, 3) := by decide +kernel
theorem d_M_combine_178 : decode b_M_combine 178 = .ok (.iload 8, 2) := by decide +kernel
theorem d_M_combine_180 : decode b_M_combine 180 = .ok (.iload 9, 2) := by decide +kernel
theorem d_M_combine_182 : decode b_M_combine 182 = .ok (.iadd, 1) := by decide +kernel
theorem d_M_combine_183 : decode b_M_combine 183 = .ok (.istore 10, 2) := by decide +kernel
theorem d_M_combine_185 : decode b_M_combine 185 = .ok (.iload 8, 2) := by decide +kernel
theorem d_M_combine_187 : decode b_M_combine 187 = .ok (.ldc 89, 2) := by decide +kernel
theorem d_M_combine_189 : decode b_M_combine 189 = .ok (.if_icmp .ne 8, 3) := by decide +kernel
theorem d_M_combine_192 : decode b_M_combine 192 = .ok (.iload 9, 2) := by decide +kernel
theorem d_M_combine_194 : decode b_M_combine 194 = .ok (.goto 50, 3) := by decide +kernel
theorem d_M_combine_197 : decode b_M_combine 197 = .ok (.iload 4, 2) := by decide +kernel
theorem d_M_combine_199 : decode b_M_combine 199 = .ok (.ifCond .ne 8, 3) := by decide +kernel
theorem d_M_combine_202 : decode b_M_combine 202 = .ok (.iload 10, 2) := by decide +kernel
theorem d_M_combine_204 : decode b_M_combine 204 = .ok (.goto 40, 3) := by decide +kernel
theorem d_M_combine_207 : decode b_M_combine 207 = .ok (.iload 4, 2) := by decide +kernel
theorem d_M_combine_209 : decode b_M_combine 209 = .ok (.iconst 1, 1) := by decide +kernel
theorem d_M_combine_210 : decode b_M_combine 210 = .ok (.if_icmp .ne 20, 3) := by decide +kernel
theorem d_M_combine_213 : decode b_M_combine 213 = .ok (.iload 8, 2) := by decide +kernel
theorem d_M_combine_215 : decode b_M_combine 215 = .ok (.iload 9, 2) := by decide +kernel
theorem d_M_combine_217 : decode b_M_combine 217 = .ok (.if_icmp .le 8, 3) := by decide +kernel
theorem d_M_combine_220 : decode b_M_combine 220 = .ok (.iload 8, 2) := by decide +kernel
theorem d_M_combine_222 : decode b_M_combine 222 = .ok (.goto 22, 3) := by decide +kernel
theorem d_M_combine_225 : decode b_M_combine 225 = .ok (.iload 9, 2) := by decide +kernel
theorem d_M_combine_227 : decode b_M_combine 227 = .ok (.goto 17, 3) := by decide +kernel
theorem d_M_combine_230 : decode b_M_combine 230 = .ok (.iload 8, 2) := by decide +kernel
theorem d_M_combine_232 : decode b_M_combine 232 = .ok (.iload 9, 2) := by decide +kernel
theorem d_M_combine_234 : decode b_M_combine 234 = .ok (.if_icmp .ge 8, 3) := by decide +kernel
theorem d_M_combine_237 : decode b_M_combine 237 = .ok (.iload 8, 2) := by decide +kernel
theorem d_M_combine_239 : decode b_M_combine 239 = .ok (.goto 5, 3) := by decide +kernel
theorem d_M_combine_242 : decode b_M_combine 242 = .ok (.iload 9, 2) := by decide +kernel
theorem d_M_combine_244 : decode b_M_combine 244 = .ok (.istore 11, 2) := by decide +kernel
theorem d_M_combine_246 : decode b_M_combine 246 = .ok (.iload 11, 2) := by decide +kernel
theorem d_M_combine_248 : decode b_M_combine 248 = .ok (.iload 8, 2) := by decide +kernel
theorem d_M_combine_250 : decode b_M_combine 250 = .ok (.if_icmp .eq 12, 3) := by decide +kernel
theorem d_M_combine_253 : decode b_M_combine 253 = .ok (.aload_n 0, 1) := by decide +kernel
theorem d_M_combine_254 : decode b_M_combine 254 = .ok (.iload_n 1, 1) := by decide +kernel
theorem d_M_combine_255 : decode b_M_combine 255 = .ok (.iload 7, 2) := by decide +kernel
theorem d_M_combine_257 : decode b_M_combine 257 = .ok (.iload 11, 2) := by decide +kernel
theorem d_M_combine_259 : decode b_M_combine 259 = .ok (.invokevirtual 127, 3) := by decide +kernel
theorem d_M_combine_262 : decode b_M_combine 262 = .ok (.iinc 6 1, 3) := by decide +kernel
theorem d_M_combine_265 : decode b_M_combine 265 = .ok (.goto (-193), 3) := by decide +kernel
theorem d_M_combine_268 : decode b_M_combine 268 = .ok (.iinc 5 1, 3) := by decide +kernel
theorem d_M_combine_271 : decode b_M_combine 271 = .ok (.goto (-219), 3) := by decide +kernel
theorem d_M_combine_274 : decode b_M_combine 274 = .ok (.return_, 1) := by decide +kernel
theorem d_M_commit_0 : decode b_M_commit 0 = .ok (.aload_n 0, 1) := by decide +kernel
theorem d_M_commit_1 : decode b_M_commit 1 = .ok (.aload_n 0, 1) := by decide +kernel
theorem d_M_commit_2 : decode b_M_commit 2 = .ok (.iload_n 1, 1) := by decide +kernel
theorem d_M_commit_3 : decode b_M_commit 3 = .ok (.invokevirtual 97, 3) := by decide +kernel
theorem d_M_commit_6 : decode b_M_commit 6 = .ok (.ifCond .ne 7, 3) := by decide +kernel
theorem d_M_commit_9 : decode b_M_commit 9 = .ok (.iconst 1, 1) := by decide +kernel
theorem d_M_commit_10 : decode b_M_commit 10 = .ok (.goto 33, 3) := by decide +kernel
theorem d_M_commit_13 : decode b_M_commit 13 = .ok (.aload_n 0, 1) := by decide +kernel
theorem d_M_commit_14 : decode b_M_commit 14 = .ok (.iload_n 1, 1) := by decide +kernel
theorem d_M_commit_15 : decode b_M_commit 15 = .ok (.invokevirtual 135, 3) := by decide +kernel
theorem d_M_commit_18 : decode b_M_commit 18 = .ok (.ifCond .eq 20, 3) := by decide +kernel
theorem d_M_commit_21 : decode b_M_commit 21 = .ok (.aload_n 0, 1) := by decide +kernel
theorem d_M_commit_22 : decode b_M_commit 22 = .ok (.iload_n 1, 1) := by decide +kernel
theorem d_M_commit_23 : decode b_M_commit 23 = .ok (.invokevirtual 138, 3) := by decide +kernel
theorem d_M_commit_26 : decode b_M_commit 26 = .ok (.ifCond .gt 12, 3) := by decide +kernel
theorem d_M_commit_29 : decode b_M_commit 29 = .ok (.aload_n 0, 1) := by decide +kernel
theorem d_M_commit_30 : decode b_M_commit 30 = .ok (.getfield 26, 3) := by decide +kernel
theorem d_M_commit_33 : decode b_M_commit 33 = .ok (.bipush 24, 2) := by decide +kernel
theorem d_M_commit_35 : decode b_M_commit 35 = .ok (.if_icmp .ne 7, 3) := by decide +kernel
theorem d_M_commit_38 : decode b_M_commit 38 = .ok (.iconst 2, 1) := by decide +kernel
theorem d_M_commit_39 : decode b_M_commit 39 = .ok (.goto 4, 3) := by decide +kernel
theorem d_M_commit_42 : decode b_M_commit 42 = .ok (.iconst 0, 1) := by decide +kernel
theorem d_M_commit_43 : decode b_M_commit 43 = .ok (.putfield 90, 3) := by decide +kernel
theorem d_M_commit_46 : decode b_M_commit 46 = .ok (.aload_n 0, 1) := by decide +kernel
theorem d_M_commit_47 : decode b_M_commit 47 = .ok (.getfield 90, 3) := by decide +kernel
theorem d_M_commit_50 : decode b_M_commit 50 = .ok (.ifCond .le 5, 3) := by decide +kernel
theorem d_M_commit_53 : decode b_M_commit 53 = .ok (.iconst 0, 1) := by decide +kernel
theorem d_M_commit_54 : decode b_M_commit 54 = .ok (.ireturn, 1) := by decide +kernel
theorem d_M_commit_55 : decode b_M_commit 55 = .ok (.aload_n 0, 1) := by decide +kernel
theorem d_M_commit_56 : decode b_M_commit 56 = .ok (.getfield 26, 3) := by decide +kernel
theorem d_M_commit_59 : decode b_M_commit 59 = .ok (.istore_n 2, 1) := by decide +kernel
theorem d_M_commit_60 : decode b_M_commit 60 = .ok (.aload_n 0, 1) := by decide +kernel
theorem d_M_commit_61 : decode b_M_commit 61 = .ok (.dup, 1) := by decide +kernel
theorem d_M_commit_62 : decode b_M_commit 62 = .ok (.getfield 26, 3) := by decide +kernel
theorem d_M_commit_65 : decode b_M_commit 65 = .ok (.iconst 1, 1) := by decide +kernel
theorem d_M_commit_66 : decode b_M_commit 66 = .ok (.iadd, 1) := by decide +kernel
theorem d_M_commit_67 : decode b_M_commit 67 = .ok (.putfield 26, 3) := by decide +kernel
theorem d_M_commit_70 : decode b_M_commit 70 = .ok (.sipush 4096, 3) := by decide +kernel
theorem d_M_commit_73 : decode b_M_commit 73 = .ok (.bipush 24, 2) := by decide +kernel
theorem d_M_commit_75 : decode b_M_commit 75 = .ok (.iload_n 1, 1) := by decide +kernel
theorem d_M_commit_76 : decode b_M_commit 76 = .ok (.iadd, 1) := by decide +kernel
theorem d_M_commit_77 : decode b_M_commit 77 = .ok (.imul, 1) := by decide +kernel
theorem d_M_commit_78 : decode b_M_commit 78 = .ok (.istore_n 3, 1) := by decide +kernel
theorem d_M_commit_79 : decode b_M_commit 79 = .ok (.iload_n 3, 1) := by decide +kernel
theorem d_M_commit_80 : decode b_M_commit 80 = .ok (.sipush 4096, 3) := by decide +kernel
theorem d_M_commit_83 : decode b_M_commit 83 = .ok (.bipush 24, 2) := by decide +kernel
theorem d_M_commit_85 : decode b_M_commit 85 = .ok (.iload_n 1, 1) := by decide +kernel
theorem d_M_commit_86 : decode b_M_commit 86 = .ok (.iadd, 1) := by decide +kernel
theorem d_M_commit_87 : decode b_M_commit 87 = .ok (.imul, 1) := by decide +kernel
theorem d_M_commit_88 : decode b_M_commit 88 = .ok (.sipush 4096, 3) := by decide +kernel
theorem d_M_commit_91 : decode b_M_commit 91 = .ok (.iadd, 1) := by decide +kernel
theorem d_M_commit_92 : decode b_M_commit 92 = .ok (.if_icmp .ge 42, 3) := by decide +kernel
theorem d_M_commit_95 : decode b_M_commit 95 = .ok (.aload_n 0, 1) := by decide +kernel
theorem d_M_commit_96 : decode b_M_commit 96 = .ok (.getfield 14, 3) := by decide +kernel
theorem d_M_commit_99 : decode b_M_commit 99 = .ok (.iload_n 3, 1) := by decide +kernel
theorem d_M_commit_100 : decode b_M_commit 100 = .ok (.iaload, 1) := by decide +kernel
theorem d_M_commit_101 : decode b_M_commit 101 = .ok (.ldc 115, 2) := by decide +kernel
theorem d_M_commit_103 : decode b_M_commit 103 = .ok (.if_icmp .lt 25, 3) := by decide +kernel
theorem d_M_commit_106 : decode b_M_commit 106 = .ok (.aload_n 0, 1) := by decide +kernel
theorem d_M_commit_107 : decode b_M_commit 107 = .ok (.getfield 14, 3) := by decide +kernel
theorem d_M_commit_110 : decode b_M_commit 110 = .ok (.iload_n 3, 1) := by decide +kernel
theorem d_M_commit_111 : decode b_M_commit 111 = .ok (.sipush 4096, 3) := by decide +kernel
theorem d_M_commit_114 : decode b_M_commit 114 = .ok (.iload_n 2, 1) := by decide +kernel
theorem d_M_commit_115 : decode b_M_commit 115 = .ok (.imul, 1) := by decide +kernel
theorem d_M_commit_116 : decode b_M_commit 116 = .ok (.aload_n 0, 1) := by decide +kernel
theorem d_M_commit_117 : decode b_M_commit 117 = .ok (.getfield 14, 3) := by decide +kernel
theorem d_M_commit_120 : decode b_M_commit 120 = .ok (.iload_n 3, 1) := by decide +kernel
theorem d_M_commit_121 : decode b_M_commit 121 = .ok (.iaload, 1) := by decide +kernel
theorem d_M_commit_122 : decode b_M_commit 122 = .ok (.sipush 4096, 3) := by decide +kernel
theorem d_M_commit_125 : decode b_M_commit 125 = .ok (.irem, 1) := by decide +kernel
theorem d_M_commit_126 : decode b_M_commit 126 = .ok (.iadd, 1) := by decide +kernel
theorem d_M_commit_127 : decode b_M_commit 127 = .ok (.iastore, 1) := by decide +kernel
theorem d_M_commit_128 : decode b_M_commit 128 = .ok (.iinc 3 1, 3) := by decide +kernel
theorem d_M_commit_131 : decode b_M_commit 131 = .ok (.goto (-52), 3) := by decide +kernel
theorem d_M_commit_134 : decode b_M_commit 134 = .ok (.aload_n 0, 1) := by decide +kernel
theorem d_M_commit_135 : decode b_M_commit 135 = .ok (.iload_n 2, 1) := by decide +kernel
theorem d_M_commit_136 : decode b_M_commit 136 = .ok (.bipush 24, 2) := by decide +kernel
theorem d_M_commit_138 : decode b_M_commit 138 = .ok (.iload_n 1, 1) := by decide +kernel
theorem d_M_commit_139 : decode b_M_commit 139 = .ok (.iadd, 1) := by decide +kernel
theorem d_M_commit_140 : decode b_M_commit 140 = .ok (.invokevirtual 105, 3) := by decide +kernel
theorem d_M_commit_143 : decode b_M_commit 143 = .ok (.aload_n 0, 1) := by decide +kernel
theorem d_M_commit_144 : decode b_M_commit 144 = .ok (.getfield 20, 3) := by decide +kernel
theorem d_M_commit_147 : decode b_M_commit 147 = .ok (.iload_n 2, 1) := by decide +kernel
theorem d_M_commit_148 : decode b_M_commit 148 = .ok (.aload_n 0, 1) := by decide +kernel
theorem d_M_commit_149 : decode b_M_commit 149 = .ok (.getfield 34, 3) := by decide +kernel
theorem d_M_commit_152 : decode b_M_commit 152 = .ok (.iload_n 1, 1) := by decide +kernel
theorem d_M_commit_153 : decode b_M_commit 153 = .ok (.iaload, 1) := by decide +kernel
theorem d_M_commit_154 : decode b_M_commit 154 = .ok (.iastore, 1) := by decide +kernel
theorem d_M_commit_155 : decode b_M_commit 155 = .ok (.aload_n 0, 1) := by decide +kernel
theorem d_M_commit_156 : decode b_M_commit 156 = .ok (.getfield 23, 3) := by decide +kernel
theorem d_M_commit_159 : decode b_M_commit 159 = .ok (.iload_n 2, 1) := by decide +kernel
theorem d_M_commit_160 : decode b_M_commit 160 = .ok (.aload_n 0, 1) := by decide +kernel
theorem d_M_commit_161 : decode b_M_commit 161 = .ok (.getfield 37, 3) := by decide +kernel
theorem d_M_commit_164 : decode b_M_commit 164 = .ok (.iload_n 1, 1) := by decide +kernel
theorem d_M_commit_165 : decode b_M_commit 165 = .ok (.iaload, 1) := by decide +kernel
theorem d_M_commit_166 : decode b_M_commit 166 = .ok (.iastore, 1) := by decide +kernel
theorem d_M_commit_167 : decode b_M_commit 167 = .ok (.aload_n 0, 1) := by decide +kernel
theorem d_M_commit_168 : decode b_M_commit 168 = .ok (.getfield 34, 3) := by decide +kernel
theorem d_M_commit_171 : decode b_M_commit 171 = .ok (.iload_n 1, 1) := by decide +kernel
theorem d_M_commit_172 : decode b_M_commit 172 = .ok (.iload_n 2, 1) := by decide +kernel
theorem d_M_commit_173 : decode b_M_commit 173 = .ok (.iastore, 1) := by decide +kernel
theorem d_M_commit_174 : decode b_M_commit 174 = .ok (.aload_n 0, 1) := by decide +kernel
theorem d_M_commit_175 : decode b_M_commit 175 = .ok (.getfield 37, 3) := by decide +kernel
theorem d_M_commit_178 : decode b_M_commit 178 = .ok (.iload_n 1, 1) := by decide +kernel
theorem d_M_commit_179 : decode b_M_commit 179 = .ok (.iconst (-1), 1) := by decide +kernel
theorem d_M_commit_180 : decode b_M_commit 180 = .ok (.iastore, 1) := by decide +kernel
theorem d_M_commit_181 : decode b_M_commit 181 = .ok (.aload_n 0, 1) := by decide +kernel
theorem d_M_commit_182 : decode b_M_commit 182 = .ok (.getfield 52, 3) := by decide +kernel
theorem d_M_commit_185 : decode b_M_commit 185 = .ok (.iload_n 1, 1) := by decide +kernel
theorem d_M_commit_186 : decode b_M_commit 186 = .ok (.iconst 0, 1) := by decide +kernel
theorem d_M_commit_187 : decode b_M_commit 187 = .ok (.iastore, 1) := by decide +kernel
theorem d_M_commit_188 : decode b_M_commit 188 = .ok (.iload_n 2, 1) := by decide +kernel
theorem d_M_commit_189 : decode b_M_commit 189 = .ok (.ireturn, 1) := by decide +kernel
theorem d_M_isChanged_0 : decode b_M_isChanged 0 = .ok (.aload_n 0, 1) := by decide +kernel
theorem d_M_isChanged_1 : decode b_M_isChanged 1 = .ok (.getfield 37, 3) := by decide +kernel
theorem d_M_isChanged_4 : decode b_M_isChanged 4 = .ok (.iload_n 1, 1) := by decide +kernel
theorem d_M_isChanged_5 : decode b_M_isChanged 5 = .ok (.iaload, 1) := by decide +kernel
theorem d_M_isChanged_6 : decode b_M_isChanged 6 = .ok (.ifCond .lt 7, 3) := by decide +kernel
theorem d_M_isChanged_9 : decode b_M_isChanged 9 = .ok (.iconst 1, 1) := by decide +kernel
theorem d_M_isChanged_10 : decode b_M_isChanged 10 = .ok (.goto 4, 3) := by decide +kernel
theorem d_M_isChanged_13 : decode b_M_isChanged 13 = .ok (.iconst 0, 1) := by decide +kernel
theorem d_M_isChanged_14 : decode b_M_isChanged 14 = .ok (.istore_n 2, 1) := by decide +kernel
theorem d_M_isChanged_15 : decode b_M_isChanged 15 = .ok (.iconst 0, 1) := by decide +kernel
theorem d_M_isChanged_16 : decode b_M_isChanged 16 = .ok (.istore_n 3, 1) := by decide +kernel
theorem d_M_isChanged_17 : decode b_M_isChanged 17 = .ok (.iload_n 3, 1) := by decide +kernel
theorem d_M_isChanged_18 : decode b_M_isChanged 18 = .ok (.sipush 4096, 3) := by decide +kernel
theorem d_M_isChanged_21 : decode b_M_isChanged 21 = .ok (.if_icmp .ge 89, 3) := by decide +kernel
theorem d_M_isChanged_24 : decode b_M_isChanged 24 = .ok (.iload_n 2, 1) := by decide +kernel
theorem d_M_isChanged_25 : decode b_M_isChanged 25 = .ok (.ifCond .ne 85, 3) := by decide +kernel
theorem d_M_isChanged_28 : decode b_M_isChanged 28 = .ok (.aload_n 0, 1) := by decide +kernel
theorem d_M_isChanged_29 : decode b_M_isChanged 29 = .ok (.getfield 8, 3) := by decide +kernel
theorem d_M_isChanged_32 : decode b_M_isChanged 32 = .ok (.sipush 4096, 3) := by decide +kernel
theorem d_M_isChanged_35 : decode b_M_isChanged 35 = .ok (.bipush 24, 2) := by decide +kernel
theorem d_M_isChanged_37 : decode b_M_isChanged 37 = .ok (.iload_n 1, 1) := by decide +kernel
theorem d_M_isChanged_38 : decode b_M_isChanged 38 = .ok (.iadd, 1) := by decide +kernel
theorem d_M_isChanged_39 : decode b_M_isChanged 39 = .ok (.imul, 1) := by decide +kernel
theorem d_M_isChanged_40 : decode b_M_isChanged 40 = .ok (.iload_n 3, 1) := by decide +kernel
theorem d_M_isChanged_41 : decode b_M_isChanged 41 = .ok (.iadd, 1) := by decide +kernel
theorem d_M_isChanged_42 : decode b_M_isChanged 42 = .ok (.iaload, 1) := by decide +kernel
theorem d_M_isChanged_43 : decode b_M_isChanged 43 = .ok (.aload_n 0, 1) := by decide +kernel
theorem d_M_isChanged_44 : decode b_M_isChanged 44 = .ok (.getfield 8, 3) := by decide +kernel
theorem d_M_isChanged_47 : decode b_M_isChanged 47 = .ok (.sipush 4096, 3) := by decide +kernel
theorem d_M_isChanged_50 : decode b_M_isChanged 50 = .ok (.aload_n 0, 1) := by decide +kernel
theorem d_M_isChanged_51 : decode b_M_isChanged 51 = .ok (.getfield 34, 3) := by decide +kernel
theorem d_M_isChanged_54 : decode b_M_isChanged 54 = .ok (.iload_n 1, 1) := by decide +kernel
theorem d_M_isChanged_55 : decode b_M_isChanged 55 = .ok (.iaload, 1) := by decide +kernel
theorem d_M_isChanged_56 : decode b_M_isChanged 56 = .ok (.imul, 1) := by decide +kernel
theorem d_M_isChanged_57 : decode b_M_isChanged 57 = .ok (.iload_n 3, 1) := by decide +kernel
theorem d_M_isChanged_58 : decode b_M_isChanged 58 = .ok (.iadd, 1) := by decide +kernel
theorem d_M_isChanged_59 : decode b_M_isChanged 59 = .ok (.iaload, 1) := by decide +kernel
theorem d_M_isChanged_60 : decode b_M_isChanged 60 = .ok (.if_icmp .ne 38, 3) := by decide +kernel
theorem d_M_isChanged_63 : decode b_M_isChanged 63 = .ok (.aload_n 0, 1) := by decide +kernel
theorem d_M_isChanged_64 : decode b_M_isChanged 64 = .ok (.getfield 14, 3) := by decide +kernel
theorem d_M_isChanged_67 : decode b_M_isChanged 67 = .ok (.sipush 4096, 3) := by decide +kernel
theorem d_M_isChanged_70 : decode b_M_isChanged 70 = .ok (.bipush 24, 2) := by decide +kernel
theorem d_M_isChanged_72 : decode b_M_isChanged 72 = .ok (.iload_n 1, 1) := by decide +kernel
theorem d_M_isChanged_73 : decode b_M_isChanged 73 = .ok (.iadd, 1) := by decide +kernel
theorem d_M_isChanged_74 : decode b_M_isChanged 74 = .ok (.imul, 1) := by decide +kernel
theorem d_M_isChanged_75 : decode b_M_isChanged 75 = .ok (.iload_n 3, 1) := by decide +kernel
theorem d_M_isChanged_76 : decode b_M_isChanged 76 = .ok (.iadd, 1) := by decide +kernel
theorem d_M_isChanged_77 : decode b_M_isChanged 77 = .ok (.iaload, 1) := by decide +kernel
theorem d_M_isChanged_78 : decode b_M_isChanged 78 = .ok (.aload_n 0, 1) := by decide +kernel
theorem d_M_isChanged_79 : decode b_M_isChanged 79 = .ok (.getfield 14, 3) := by decide +kernel
theorem d_M_isChanged_82 : decode b_M_isChanged 82 = .ok (.sipush 4096, 3) := by decide +kernel
theorem d_M_isChanged_85 : decode b_M_isChanged 85 = .ok (.aload_n 0, 1) := by decide +kernel
theorem d_M_isChanged_86 : decode b_M_isChanged 86 = .ok (.getfield 34, 3) := by decide +kernel
theorem d_M_isChanged_89 : decode b_M_isChanged 89 = .ok (.iload_n 1, 1) := by decide +kernel
theorem d_M_isChanged_90 : decode b_M_isChanged 90 = .ok (.iaload, 1) := by decide +kernel
theorem d_M_isChanged_91 : decode b_M_isChanged 91 = .ok (.imul, 1) := by decide +kernel
theorem d_M_isChanged_92 : decode b_M_isChanged 92 = .ok (.iload_n 3, 1) := by decide +kernel
theorem d_M_isChanged_93 : decode b_M_isChanged 93 = .ok (.iadd, 1) := by decide +kernel
theorem d_M_isChanged_94 : decode b_M_isChanged 94 = .ok (.iaload, 1) := by decide +kernel
theorem d_M_isChanged_95 : decode b_M_isChanged 95 = .ok (.if_icmp .eq 7, 3) := by decide +kernel
theorem d_M_isChanged_98 : decode b_M_isChanged 98 = .ok (.iconst 1, 1) := by decide +kernel
theorem d_M_isChanged_99 : decode b_M_isChanged 99 = .ok (.goto 4, 3) := by decide +kernel
theorem d_M_isChanged_102 : decode b_M_isChanged 102 = .ok (.iconst 0, 1) := by decide +kernel
theorem d_M_isChanged_103 : decode b_M_isChanged 103 = .ok (.istore_n 2, 1) := by decide +kernel
theorem d_M_isChanged_104 : decode b_M_isChanged 104 = .ok (.iinc 3 1, 3) := by decide +kernel
theorem d_M_isChanged_107 : decode b_M_isChanged 107 = .ok (.goto (-90), 3) := by decide +kernel
theorem d_M_isChanged_110 : decode b_M_isChanged 110 = .ok (.iload_n 2, 1) := by decide +kernel
theorem d_M_isChanged_111 : decode b_M_isChanged 111 = .ok (.ireturn, 1) := by decide +kernel
theorem d_M_unsettled_0 : decode b_M_unsettled 0 = .ok (.iconst 0, 1) := by decide +kernel
theorem d_M_unsettled_1 : decode b_M_unsettled 1 = .ok (.istore_n 2, 1) := by decide +kernel
theorem d_M_unsettled_2 : decode b_M_unsettled 2 = .ok (.iconst 0, 1) := by decide +kernel
theorem d_M_unsettled_3 : decode b_M_unsettled 3 = .ok (.istore_n 3, 1) := by decide +kernel
theorem d_M_unsettled_4 : decode b_M_unsettled 4 = .ok (.iload_n 3, 1) := by decide +kernel
theorem d_M_unsettled_5 : decode b_M_unsettled 5 = .ok (.aload_n 0, 1) := by decide +kernel
theorem d_M_unsettled_6 : decode b_M_unsettled 6 = .ok (.getfield 52, 3) := by decide +kernel
theorem d_M_unsettled_9 : decode b_M_unsettled 9 = .ok (.iload_n 1, 1) := by decide +kernel
theorem d_M_unsettled_10 : decode b_M_unsettled 10 = .ok (.iaload, 1) := by decide +kernel
theorem d_M_unsettled_11 : decode b_M_unsettled 11 = .ok (.if_icmp .ge 32, 3) := by decide +kernel
theorem d_M_unsettled_14 : decode b_M_unsettled 14 = .ok (.iload_n 2, 1) := by decide +kernel
theorem d_M_unsettled_15 : decode b_M_unsettled 15 = .ok (.aload_n 0, 1) := by decide +kernel
theorem d_M_unsettled_16 : decode b_M_unsettled 16 = .ok (.getfield 55, 3) := by decide +kernel
theorem d_M_unsettled_19 : decode b_M_unsettled 19 = .ok (.sipush 4096, 3) := by decide +kernel
theorem d_M_unsettled_22 : decode b_M_unsettled 22 = .ok (.iload_n 1, 1) := by decide +kernel
theorem d_M_unsettled_23 : decode b_M_unsettled 23 = .ok (.imul, 1) := by decide +kernel
theorem d_M_unsettled_24 : decode b_M_unsettled 24 = .ok (.iload_n 3, 1) := by decide +kernel
theorem d_M_unsettled_25 : decode b_M_unsettled 25 = .ok (.iadd, 1) := by decide +kernel
theorem d_M_unsettled_26 : decode b_M_unsettled 26 = .ok (.baload, 1) := by decide +kernel
theorem d_M_unsettled_27 : decode b_M_unsettled 27 = .ok (.ifCond .eq 7, 3) := by decide +kernel
theorem d_M_unsettled_30 : decode b_M_unsettled 30 = .ok (.iconst 0, 1) := by decide +kernel
theorem d_M_unsettled_31 : decode b_M_unsettled 31 = .ok (.goto 4, 3) := by decide +kernel
theorem d_M_unsettled_34 : decode b_M_unsettled 34 = .ok (.iconst 1, 1) := by decide +kernel
theorem d_M_unsettled_35 : decode b_M_unsettled 35 = .ok (.iadd, 1) := by decide +kernel
theorem d_M_unsettled_36 : decode b_M_unsettled 36 = .ok (.istore_n 2, 1) := by decide +kernel
theorem d_M_unsettled_37 : decode b_M_unsettled 37 = .ok (.iinc 3 1, 3) := by decide +kernel
theorem d_M_unsettled_40 : decode b_M_unsettled 40 = .ok (.goto (-36), 3) := by decide +kernel
theorem d_M_unsettled_43 : decode b_M_unsettled 43 = .ok (.iload_n 2, 1) := by decide +kernel
theorem d_M_unsettled_44 : decode b_M_unsettled 44 = .ok (.ireturn, 1) := by decide +kernel
theorem d_M_merge_0 : decode b_M_merge 0 = .ok (.aload_n 0, 1) := by decide +kernel
theorem d_M_merge_1 : decode b_M_merge 1 = .ok (.aload_n 0, 1) := by decide +kernel
theorem d_M_merge_2 : decode b_M_merge 2 = .ok (.iload_n 1, 1) := by decide +kernel
theorem d_M_merge_3 : decode b_M_merge 3 = .ok (.invokevirtual 97, 3) := by decide +kernel
theorem d_M_merge_6 : decode b_M_merge 6 = .ok (.ifCond .eq 11, 3) := by decide +kernel
theorem d_M_merge_9 : decode b_M_merge 9 = .ok (.aload_n 0, 1) := by decide +kernel
theorem d_M_merge_10 : decode b_M_merge 10 = .ok (.iload_n 2, 1) := by decide +kernel
theorem d_M_merge_11 : decode b_M_merge 11 = .ok (.invokevirtual 93, 3) := by decide +kernel
theorem d_M_merge_14 : decode b_M_merge 14 = .ok (.ifCond .ne 7, 3) := by decide +kernel
theorem d_M_merge_17 : decode b_M_merge 17 = .ok (.iconst 1, 1) := by decide +kernel
theorem d_M_merge_18 : decode b_M_merge 18 = .ok (.goto 36, 3) := by decide +kernel
theorem d_M_merge_21 : decode b_M_merge 21 = .ok (.aload_n 0, 1) := by decide +kernel
theorem d_M_merge_22 : decode b_M_merge 22 = .ok (.iload_n 1, 1) := by decide +kernel
theorem d_M_merge_23 : decode b_M_merge 23 = .ok (.invokevirtual 135, 3) := by decide +kernel
theorem d_M_merge_26 : decode b_M_merge 26 = .ok (.ifCond .ne 23, 3) := by decide +kernel
theorem d_M_merge_29 : decode b_M_merge 29 = .ok (.aload_n 0, 1) := by decide +kernel
theorem d_M_merge_30 : decode b_M_merge 30 = .ok (.iconst 1, 1) := by decide +kernel
theorem d_M_merge_31 : decode b_M_merge 31 = .ok (.aload_n 0, 1) := by decide +kernel
theorem d_M_merge_32 : decode b_M_merge 32 = .ok (.getfield 34, 3) := by decide +kernel
theorem d_M_merge_35 : decode b_M_merge 35 = .ok (.iload_n 1, 1) := by decide +kernel
theorem d_M_merge_36 : decode b_M_merge 36 = .ok (.iaload, 1) := by decide +kernel
theorem d_M_merge_37 : decode b_M_merge 37 = .ok (.ishl, 1) := by decide +kernel
theorem d_M_merge_38 : decode b_M_merge 38 = .ok (.invokevirtual 142, 3) := by decide +kernel
theorem d_M_merge_41 : decode b_M_merge 41 = .ok (.iload_n 2, 1) := by decide +kernel
theorem d_M_merge_42 : decode b_M_merge 42 = .ok (.ishr, 1) := by decide +kernel
theorem d_M_merge_43 : decode b_M_merge 43 = .ok (.iconst 1, 1) := by decide +kernel
theorem d_M_merge_44 : decode b_M_merge 44 = .ok (.iand, 1) := by decide +kernel
theorem d_M_merge_45 : decode b_M_merge 45 = .ok (.iconst 1, 1) := by decide +kernel
theorem d_M_merge_46 : decode b_M_merge 46 = .ok (.if_icmp .ne 7, 3) := by decide +kernel
theorem d_M_merge_49 : decode b_M_merge 49 = .ok (.iconst 2, 1) := by decide +kernel
theorem d_M_merge_50 : decode b_M_merge 50 = .ok (.goto 4, 3) := by decide +kernel
theorem d_M_merge_53 : decode b_M_merge 53 = .ok (.iconst 0, 1) := by decide +kernel
theorem d_M_merge_54 : decode b_M_merge 54 = .ok (.putfield 90, 3) := by decide +kernel
theorem d_M_merge_57 : decode b_M_merge 57 = .ok (.aload_n 0, 1) := by decide +kernel
theorem d_M_merge_58 : decode b_M_merge 58 = .ok (.getfield 90, 3) := by decide +kernel
theorem d_M_merge_61 : decode b_M_merge 61 = .ok (.ifCond .le 5, 3) := by decide +kernel
theorem d_M_merge_64 : decode b_M_merge 64 = .ok (.iconst 0, 1) := by decide +kernel
theorem d_M_merge_65 : decode b_M_merge 65 = .ok (.ireturn, 1) := by decide +kernel
theorem d_M_merge_66 : decode b_M_merge 66 = .ok (.aload_n 0, 1) := by decide +kernel
theorem d_M_merge_67 : decode b_M_merge 67 = .ok (.aload_n 0, 1) := by decide +kernel
theorem d_M_merge_68 : decode b_M_merge 68 = .ok (.getfield 34, 3) := by decide +kernel
theorem d_M_merge_71 : decode b_M_merge 71 = .ok (.iload_n 1, 1) := by decide +kernel
theorem d_M_merge_72 : decode b_M_merge 72 = .ok (.iaload, 1) := by decide +kernel
theorem d_M_merge_73 : decode b_M_merge 73 = .ok (.iload_n 2, 1) := by decide +kernel
theorem d_M_merge_74 : decode b_M_merge 74 = .ok (.invokevirtual 158, 3) := by decide +kernel
theorem d_M_merge_77 : decode b_M_merge 77 = .ok (.aload_n 0, 1) := by decide +kernel
theorem d_M_merge_78 : decode b_M_merge 78 = .ok (.getfield 37, 3) := by decide +kernel
theorem d_M_merge_81 : decode b_M_merge 81 = .ok (.iload_n 1, 1) := by decide +kernel
theorem d_M_merge_82 : decode b_M_merge 82 = .ok (.iload_n 2, 1) := by decide +kernel
theorem d_M_merge_83 : decode b_M_merge 83 = .ok (.iastore, 1) := by decide +kernel
theorem d_M_merge_84 : decode b_M_merge 84 = .ok (.aload_n 0, 1) := by decide +kernel
theorem d_M_merge_85 : decode b_M_merge 85 = .ok (.getfield 52, 3) := by decide +kernel
theorem d_M_merge_88 : decode b_M_merge 88 = .ok (.iload_n 1, 1) := by decide +kernel
theorem d_M_merge_89 : decode b_M_merge 89 = .ok (.iconst 0, 1) := by decide +kernel
theorem d_M_merge_90 : decode b_M_merge 90 = .ok (.iastore, 1) := by decide +kernel
theorem d_M_merge_91 : decode b_M_merge 91 = .ok (.iconst 0, 1) := by decide +kernel
theorem d_M_merge_92 : decode b_M_merge 92 = .ok (.istore_n 3, 1) := by decide +kernel
theorem d_M_merge_93 : decode b_M_merge 93 = .ok (.iload_n 3, 1) := by decide +kernel
theorem d_M_merge_94 : decode b_M_merge 94 = .ok (.sipush 4096, 3) := by decide +kernel
theorem d_M_merge_97 : decode b_M_merge 97 = .ok (.if_icmp .ge 216, 3) := by decide +kernel
theorem d_M_merge_100 : decode b_M_merge 100 = .ok (.sipush 4096, 3) := by decide +kernel
theorem d_M_merge_103 : decode b_M_merge 103 = .ok (.bipush 24, 2) := by decide +kernel
theorem d_M_merge_105 : decode b_M_merge 105 = .ok (.iload_n 1, 1) := by decide +kernel
theorem d_M_merge_106 : decode b_M_merge 106 = .ok (.iadd, 1) := by decide +kernel
theorem d_M_merge_107 : decode b_M_merge 107 = .ok (.imul, 1) := by decide +kernel
theorem d_M_merge_108 : decode b_M_merge 108 = .ok (.iload_n 3, 1) := by decide +kernel
theorem d_M_merge_109 : decode b_M_merge 109 = .ok (.iadd, 1) := by decide +kernel
theorem d_M_merge_110 : decode b_M_merge 110 = .ok (.istore 4, 2) := by decide +kernel
theorem d_M_merge_112 : decode b_M_merge 112 = .ok (.aload_n 0, 1) := by decide +kernel
theorem d_M_merge_113 : decode b_M_merge 113 = .ok (.getfield 8, 3) := by decide +kernel
theorem d_M_merge_116 : decode b_M_merge 116 = .ok (.iload 4, 2) := by decide +kernel
theorem d_M_merge_118 : decode b_M_merge 118 = .ok (.iaload, 1) := by decide +kernel
theorem d_M_merge_119 : decode b_M_merge 119 = .ok (.istore 5, 2) := by decide +kernel
theorem d_M_merge_121 : decode b_M_merge 121 = .ok (.aload_n 0, 1) := by decide +kernel
theorem d_M_merge_122 : decode b_M_merge 122 = .ok (.getfield 8, 3) := by decide +kernel
theorem d_M_merge_125 : decode b_M_merge 125 = .ok (.sipush 4096, 3) := by decide +kernel
theorem d_M_merge_128 : decode b_M_merge 128 = .ok (.iload_n 2, 1) := by decide +kernel
theorem d_M_merge_129 : decode b_M_merge 129 = .ok (.imul, 1) := by decide +kernel
theorem d_M_merge_130 : decode b_M_merge 130 = .ok (.iload_n 3, 1) := by decide +kernel
theorem d_M_merge_131 : decode b_M_merge 131 = .ok (.iadd, 1) := by decide +kernel
theorem d_M_merge_132 : decode b_M_merge 132 = .ok (.iaload, 1) := by decide +kernel
theorem d_M_merge_133 : decode b_M_merge 133 = .ok (.istore 6, 2) := by decide +kernel
theorem d_M_merge_135 : decode b_M_merge 135 = .ok (.iload 5, 2) := by decide +kernel
theorem d_M_merge_137 : decode b_M_merge 137 = .ok (.iload 6, 2) := by decide +kernel
theorem d_M_merge_139 : decode b_M_merge 139 = .ok (.if_icmp .eq 168, 3) := by decide +kernel
theorem d_M_merge_142 : decode b_M_merge 142 = .ok (.iload 6, 2) := by decide +kernel
theorem d_M_merge_144 : decode b_M_merge 144 = .ok (.aload_n 0, 1) := by decide +kernel
theorem d_M_merge_145 : decode b_M_merge 145 = .ok (.getfield 83, 3) := by decide +kernel
theorem d_M_merge_148 : decode b_M_merge 148 = .ok (.iload_n 3, 1) := by decide +kernel
theorem d_M_merge_149 : decode b_M_merge 149 = .ok (.iaload, 1) := by decide +kernel
theorem d_M_merge_150 : decode b_M_merge 150 = .ok (.if_icmp .ne 6, 3) := by decide +kernel
theorem d_M_merge_153 : decode b_M_merge 153 = .ok (.goto 154, 3) := by decide +kernel
theorem d_M_merge_156 : decode b_M_merge 156 = .ok (.iload 5, 2) := by decide +kernel
theorem d_M_merge_158 : decode b_M_merge 158 = .ok (.aload_n 0, 1) := by decide +kernel
theorem d_M_merge_159 : decode b_M_merge 159 = .ok (.getfield 83, 3) := by decide +kernel
theorem d_M_merge_162 : decode b_M_merge 162 = .ok (.iload_n 3, 1) := by decide +kernel
theorem d_M_merge_163 : decode b_M_merge 163 = .ok (.iaload, 1) := by decide +kernel
theorem d_M_merge_164 : decode b_M_merge 164 = .ok (.if_icmp .ne 7, 3) := by decide +kernel
theorem d_M_merge_167 : decode b_M_merge 167 = .ok (.iconst 1, 1) := by decide +kernel
theorem d_M_merge_168 : decode b_M_merge 168 = .ok (.goto 4, 3) := by decide +kernel
theorem d_M_merge_171 : decode b_M_merge 171 = .ok (.iconst 0, 1) := by decide +kernel
theorem d_M_merge_172 : decode b_M_merge 172 = .ok (.istore 7, 2) := by decide +kernel
theorem d_M_merge_174 : decode b_M_merge 174 = .ok (.aload_n 0, 1) := by decide +kernel
theorem d_M_merge_175 : decode b_M_merge 175 = .ok (.getfield 17, 3) := by decide +kernel
theorem d_M_merge_178 : decode b_M_merge 178 = .ok (.iload_n 3, 1) := by decide +kernel
theorem d_M_merge_179 : decode b_M_merge 179 = .ok (.sipush 1024, 3) := by decide +kernel
theorem d_M_merge_182 : decode b_M_merge 182 = .ok (.idiv, 1) := by decide +kernel
theorem d_M_merge_183 : decode b_M_merge 183 = .ok (.iaload, 1) := by decide +kernel
theorem d_M_merge_184 : decode b_M_merge 184 = .ok (.istore 8, 2) := by decide +kernel
theorem d_M_merge_186 : decode b_M_merge 186 = .ok (.iload 7, 2) := by decide +kernel
theorem d_M_merge_188 : decode b_M_merge 188 = .ok (.ifCond .ne 83, 3) := by decide +kernel
theorem d_M_merge_191 : decode b_M_merge 191 = .ok (.iload 8, 2) := by decide +kernel
theorem d_M_merge_193 : decode b_M_merge 193 = .ok (.iconst 1, 1) := by decide +kernel
theorem d_M_merge_194 : decode b_M_merge 194 = .ok (.if_icmp .ne 10, 3) := by decide +kernel
theorem d_M_merge_197 : decode b_M_merge 197 = .ok (.iload 6, 2) := by decide +kernel
theorem d_M_merge_199 : decode b_M_merge 199 = .ok (.iload 5, 2) := by decide +kernel
theorem d_M_merge_201 : decode b_M_merge 201 = .ok (.if_icmp .gt 42, 3) := by decide +kernel
theorem d_M_merge_204 : decode b_M_merge 204 = .ok (.iload 8, 2) := by decide +kernel
theorem d_M_merge_206 : decode b_M_merge 206 = .ok (.iconst 2, 1) := by decide +kernel
theorem d_M_merge_207 : decode b_M_merge 207 = .ok (.if_icmp .ne 10, 3) := by decide +kernel
theorem d_M_merge_210 : decode b_M_merge 210 = .ok (.iload 6, 2) := by decide +kernel
theorem d_M_merge_212 : decode b_M_merge 212 = .ok (.iload 5, 2) := by decide +kernel
theorem d_M_merge_214 : decode b_M_merge 214 = .ok (.if_icmp .lt 29, 3) := by decide +kernel
theorem d_M_merge_217 : decode b_M_merge 217 = .ok (.iload 8, 2) := by decide +kernel
theorem d_M_merge_219 : decode b_M_merge 219 = .ok (.iconst 3, 1) := by decide +kernel
theorem d_M_merge_220 : decode b_M_merge 220 = .ok (.if_icmp .ne 27, 3) := by decide +kernel
theorem d_M_merge_223 : decode b_M_merge 223 = .ok (.aload_n 0, 1) := by decide +kernel
theorem d_M_merge_224 : decode b_M_merge 224 = .ok (.sipush 4096, 3) := by decide +kernel
theorem d_M_merge_227 : decode b_M_merge 227 = .ok (.iload_n 2, 1) := by decide +kernel
theorem d_M_merge_228 : decode b_M_merge 228 = .ok (.imul, 1) := by decide +kernel
theorem d_M_merge_229 : decode b_M_merge 229 = .ok (.iload_n 3, 1) := by decide +kernel
theorem d_M_merge_230 : decode b_M_merge 230 = .ok (.iadd, 1) := by decide +kernel
theorem d_M_merge_231 : decode b_M_merge 231 = .ok (.invokevirtual 161, 3) := by decide +kernel
theorem d_M_merge_234 : decode b_M_merge 234 = .ok (.aload_n 0, 1) := by decide +kernel
theorem d_M_merge_235 : decode b_M_merge 235 = .ok (.iload 4, 2) := by decide +kernel
theorem d_M_merge_237 : decode b_M_merge 237 = .ok (.invokevirtual 161, 3) := by decide +kernel
theorem d_M_merge_240 : decode b_M_merge 240 = .ok (.if_icmp .le 7, 3) := by decide +kernel
theorem d_M_merge_243 : decode b_M_merge 243 = .ok (.iconst 1, 1) := by decide +kernel
theorem d_M_merge_244 : decode b_M_merge 244 = .ok (.goto 4, 3) := by decide +kernel
theorem d_M_merge_247 : decode b_M_merge 247 = .ok (.iconst 0, 1) := by decide +kernel
theorem d_M_merge_248 : decode b_M_merge 248 = .ok (.istore 7, 2) := by decide +kernel
theorem d_M_merge_250 : decode b_M_merge 250 = .ok (.iload 8, 2) := by decide +kernel
theorem d_M_merge_252 : decode b_M_merge 252 = .ok (.ifCond .ne 19, 3) := by decide +kernel
theorem d_M_merge_255 : decode b_M_merge 255 = .ok (.aload_n 0, 1) := by decide +kernel
theorem d_M_merge_256 : decode b_M_merge 256 = .ok (.iload_n 1, 1) := by decide +kernel
theorem d_M_merge_257 : decode b_M_merge 257 = .ok (.iload_n 3, 1) := by decide +kernel
theorem d_M_merge_258 : decode b_M_merge 258 = .ok (.iload 5, 2) := by decide +kernel
theorem d_M_merge_260 : decode b_M_merge 260 = .ok (.iload 6, 2) := by decide +kernel
theorem d_M_merge_262 : decode b_M_merge 262 = .ok (.aload_n 0, 1) := by decide +kernel
theorem d_M_merge_263 : decode b_M_merge 263 = .ok (.getfield 83, 3) := by decide +kernel
theorem d_M_merge_266 : decode b_M_merge 266 = .ok (.iload_n 3, 1) := by decide +kernel
theorem d_M_merge_267 : decode b_M_merge 267 = .ok (.iaload, 1) := by decide +kernel
theorem d_M_merge_268 : decode b_M_merge 268 = .ok (.invokevirtual 164, 3) := by decide +kernel
theorem d_M_merge_271 : decode b_M_merge 271 = .ok (.iload 7, 2) := by decide +kernel
theorem d_M_merge_273 : decode b_M_merge 273 = .ok (.ifCond .ne 6, 3) := by decide +kernel
theorem d_M_merge_276 : decode b_M_merge 276 = .ok (.goto 31, 3) := by decide +kernel
theorem d_M_merge_279 : decode b_M_merge 279 = .ok (.aload_n 0, 1) := by decide +kernel
theorem d_M_merge_280 : decode b_M_merge 280 = .ok (.getfield 8, 3) := by decide +kernel
theorem d_M_merge_283 : decode b_M_merge 283 = .ok (.iload 4, 2) := by decide +kernel
theorem d_M_merge_285 : decode b_M_merge 285 = .ok (.iload 6, 2) := by decide +kernel
theorem d_M_merge_287 : decode b_M_merge 287 = .ok (.iastore, 1) := by decide +kernel
theorem d_M_merge_288 : decode b_M_merge 288 = .ok (.aload_n 0, 1) := by decide +kernel
theorem d_M_merge_289 : decode b_M_merge 289 = .ok (.getfield 14, 3) := by decide +kernel
theorem d_M_merge_292 : decode b_M_merge 292 = .ok (.iload 4, 2) := by decide +kernel
theorem d_M_merge_294 : decode b_M_merge 294 = .ok (.aload_n 0, 1) := by decide +kernel
theorem d_M_merge_295 : decode b_M_merge 295 = .ok (.getfield 14, 3) := by decide +kernel
theorem d_M_merge_298 : decode b_M_merge 298 = .ok (.sipush 4096, 3) := by decide +kernel
theorem d_M_merge_301 : decode b_M_merge 301 = .ok (.iload_n 2, 1) := by decide +kernel
theorem d_M_merge_302 : decode b_M_merge 302 = .ok (.imul, 1) := by decide +kernel
theorem d_M_merge_303 : decode b_M_merge 303 = .ok (.iload_n 3, 1) := by decide +kernel
theorem d_M_merge_304 : decode b_M_merge 304 = .ok (.iadd, 1) := by decide +kernel
theorem d_M_merge_305 : decode b_M_merge 305 = .ok (.iaload, 1) := by decide +kernel
theorem d_M_merge_306 : decode b_M_merge 306 = .ok (.iastore, 1) := by decide +kernel
theorem d_M_merge_307 : decode b_M_merge 307 = .ok (.iinc 3 1, 3) := by decide +kernel
theorem d_M_merge_310 : decode b_M_merge 310 = .ok (.goto (-217), 3) := by decide +kernel
theorem d_M_merge_313 : decode b_M_merge 313 = .ok (.aload_n 0, 1) := by decide +kernel
theorem d_M_merge_314 : decode b_M_merge 314 = .ok (.getfield 52, 3) := by decide +kernel
theorem d_M_merge_317 : decode b_M_merge 317 = .ok (.iload_n 1, 1) := by decide +kernel
theorem d_M_merge_318 : decode b_M_merge 318 = .ok (.iaload, 1) := by decide +kernel
theorem d_M_merge_319 : decode b_M_merge 319 = .ok (.ireturn, 1) := by decide +kernel
theorem d_M_ancestors_0 : decode b_M_ancestors 0 = .ok (.iload_n 1, 1) := by decide +kernel
theorem d_M_ancestors_1 : decode b_M_ancestors 1 = .ok (.istore_n 2, 1) := by decide +kernel
theorem d_M_ancestors_2 : decode b_M_ancestors 2 = .ok (.aload_n 0, 1) := by decide +kernel
theorem d_M_ancestors_3 : decode b_M_ancestors 3 = .ok (.getfield 26, 3) := by decide +kernel
theorem d_M_ancestors_6 : decode b_M_ancestors 6 = .ok (.iconst 1, 1) := by decide +kernel
theorem d_M_ancestors_7 : decode b_M_ancestors 7 = .ok (.isub, 1) := by decide +kernel
theorem d_M_ancestors_8 : decode b_M_ancestors 8 = .ok (.istore_n 3, 1) := by decide +kernel
theorem d_M_ancestors_9 : decode b_M_ancestors 9 = .ok (.iload_n 3, 1) := by decide +kernel
theorem d_M_ancestors_10 : decode b_M_ancestors 10 = .ok (.ifCond .le 51, 3) := by decide +kernel
theorem d_M_ancestors_13 : decode b_M_ancestors 13 = .ok (.iload_n 2, 1) := by decide +kernel
theorem d_M_ancestors_14 : decode b_M_ancestors 14 = .ok (.iload_n 3, 1) := by decide +kernel
theorem d_M_ancestors_15 : decode b_M_ancestors 15 = .ok (.ishr, 1) := by decide +kernel
theorem d_M_ancestors_16 : decode b_M_ancestors 16 = .ok (.iconst 1, 1) := by decide +kernel
theorem d_M_ancestors_17 : decode b_M_ancestors 17 = .ok (.iand, 1) := by decide +kernel
theorem d_M_ancestors_18 : decode b_M_ancestors 18 = .ok (.ifCond .ne 6, 3) := by decide +kernel
theorem d_M_ancestors_21 : decode b_M_ancestors 21 = .ok (.goto 34, 3) := by decide +kernel
theorem d_M_ancestors_24 : decode b_M_ancestors 24 = .ok (.iload_n 2, 1) := by decide +kernel
theorem d_M_ancestors_25 : decode b_M_ancestors 25 = .ok (.iconst 1, 1) := by decide +kernel
theorem d_M_ancestors_26 : decode b_M_ancestors 26 = .ok (.aload_n 0, 1) := by decide +kernel
theorem d_M_ancestors_27 : decode b_M_ancestors 27 = .ok (.getfield 20, 3) := by decide +kernel
theorem d_M_ancestors_30 : decode b_M_ancestors 30 = .ok (.iload_n 3, 1) := by decide +kernel
theorem d_M_ancestors_31 : decode b_M_ancestors 31 = .ok (.iaload, 1) := by decide +kernel
theorem d_M_ancestors_32 : decode b_M_ancestors 32 = .ok (.ishl, 1) := by decide +kernel
theorem d_M_ancestors_33 : decode b_M_ancestors 33 = .ok (.ior, 1) := by decide +kernel
theorem d_M_ancestors_34 : decode b_M_ancestors 34 = .ok (.istore_n 2, 1) := by decide +kernel
theorem d_M_ancestors_35 : decode b_M_ancestors 35 = .ok (.aload_n 0, 1) := by decide +kernel
theorem d_M_ancestors_36 : decode b_M_ancestors 36 = .ok (.getfield 23, 3) := by decide +kernel
theorem d_M_ancestors_39 : decode b_M_ancestors 39 = .ok (.iload_n 3, 1) := by decide +kernel
theorem d_M_ancestors_40 : decode b_M_ancestors 40 = .ok (.iaload, 1) := by decide +kernel
theorem d_M_ancestors_41 : decode b_M_ancestors 41 = .ok (.ifCond .lt 14, 3) := by decide +kernel
theorem d_M_ancestors_44 : decode b_M_ancestors 44 = .ok (.iload_n 2, 1) := by decide +kernel
theorem d_M_ancestors_45 : decode b_M_ancestors 45 = .ok (.iconst 1, 1) := by decide +kernel
theorem d_M_ancestors_46 : decode b_M_ancestors 46 = .ok (.aload_n 0, 1) := by decide +kernel
theorem d_M_ancestors_47 : decode b_M_ancestors 47 = .ok (.getfield 23, 3) := by decide +kernel
theorem d_M_ancestors_50 : decode b_M_ancestors 50 = .ok (.iload_n 3, 1) := by decide +kernel
theorem d_M_ancestors_51 : decode b_M_ancestors 51 = .ok (.iaload, 1) := by decide +kernel
theorem d_M_ancestors_52 : decode b_M_ancestors 52 = .ok (.ishl, 1) := by decide +kernel
theorem d_M_ancestors_53 : decode b_M_ancestors 53 = .ok (.ior, 1) := by decide +kernel
theorem d_M_ancestors_54 : decode b_M_ancestors 54 = .ok (.istore_n 2, 1) := by decide +kernel
theorem d_M_ancestors_55 : decode b_M_ancestors 55 = .ok (.iinc 3 (-1), 3) := by decide +kernel
theorem d_M_ancestors_58 : decode b_M_ancestors 58 = .ok (.goto (-49), 3) := by decide +kernel
theorem d_M_ancestors_61 : decode b_M_ancestors 61 = .ok (.iload_n 2, 1) := by decide +kernel
theorem d_M_ancestors_62 : decode b_M_ancestors 62 = .ok (.ireturn, 1) := by decide +kernel
theorem d_M_base_0 : decode b_M_base 0 = .ok (.iconst 0, 1) := by decide +kernel
theorem d_M_base_1 : decode b_M_base 1 = .ok (.istore_n 3, 1) := by decide +kernel
theorem d_M_base_2 : decode b_M_base 2 = .ok (.aload_n 0, 1) := by decide +kernel
theorem d_M_base_3 : decode b_M_base 3 = .ok (.iconst 0, 1) := by decide +kernel
theorem d_M_base_4 : decode b_M_base 4 = .ok (.iconst 1, 1) := by decide +kernel
theorem d_M_base_5 : decode b_M_base 5 = .ok (.iload_n 1, 1) := by decide +kernel
theorem d_M_base_6 : decode b_M_base 6 = .ok (.ishl, 1) := by decide +kernel
theorem d_M_base_7 : decode b_M_base 7 = .ok (.iload_n 2, 1) := by decide +kernel
theorem d_M_base_8 : decode b_M_base 8 = .ok (.invokevirtual 149, 3) := by decide +kernel
theorem d_M_base_11 : decode b_M_base 11 = .ok (.iload_n 3, 1) := by decide +kernel
theorem d_M_base_12 : decode b_M_base 12 = .ok (.ifCond .lt 165, 3) := by decide +kernel
theorem d_M_base_15 : decode b_M_base 15 = .ok (.aload_n 0, 1) := by decide +kernel
theorem d_M_base_16 : decode b_M_base 16 = .ok (.getfield 76, 3) := by decide +kernel
theorem d_M_base_19 : decode b_M_base 19 = .ok (.iload_n 3, 1) := by decide +kernel
theorem d_M_base_20 : decode b_M_base 20 = .ok (.iaload, 1) := by decide +kernel
theorem d_M_base_21 : decode b_M_base 21 = .ok (.aload_n 0, 1) := by decide +kernel
theorem d_M_base_22 : decode b_M_base 22 = .ok (.getfield 79, 3) := by decide +kernel
theorem d_M_base_25 : decode b_M_base 25 = .ok (.iload_n 3, 1) := by decide +kernel
theorem d_M_base_26 : decode b_M_base 26 = .ok (.iaload, 1) := by decide +kernel
theorem d_M_base_27 : decode b_M_base 27 = .ok (.invokestatic 152, 3) := by decide +kernel
theorem d_M_base_30 : decode b_M_base 30 = .ok (.istore 4, 2) := by decide +kernel
theorem d_M_base_32 : decode b_M_base 32 = .ok (.iload 4, 2) := by decide +kernel
theorem d_M_base_34 : decode b_M_base 34 = .ok (.bipush 24, 2) := by decide +kernel
theorem d_M_base_36 : decode b_M_base 36 = .ok (.if_icmp .ne 51, 3) := by decide +kernel
theorem d_M_base_39 : decode b_M_base 39 = .ok (.iinc 3 (-1), 3) := by decide +kernel
theorem d_M_base_42 : decode b_M_base 42 = .ok (.iload_n 3, 1) := by decide +kernel
theorem d_M_base_43 : decode b_M_base 43 = .ok (.ifCond .ge 4, 3) := by decide +kernel
theorem d_M_base_46 : decode b_M_base 46 = .ok (.return_, 1) := by decide +kernel
theorem d_M_base_47 : decode b_M_base 47 = .ok (.aload_n 0, 1) := by decide +kernel
theorem d_M_base_48 : decode b_M_base 48 = .ok (.getfield 76, 3) := by decide +kernel
theorem d_M_base_51 : decode b_M_base 51 = .ok (.iload_n 3, 1) := by decide +kernel
theorem d_M_base_52 : decode b_M_base 52 = .ok (.iaload, 1) := by decide +kernel
theorem d_M_base_53 : decode b_M_base 53 = .ok (.aload_n 0, 1) := by decide +kernel
theorem d_M_base_54 : decode b_M_base 54 = .ok (.getfield 79, 3) := by decide +kernel
theorem d_M_base_57 : decode b_M_base 57 = .ok (.iload_n 3, 1) := by decide +kernel
theorem d_M_base_58 : decode b_M_base 58 = .ok (.iaload, 1) := by decide +kernel
theorem d_M_base_59 : decode b_M_base 59 = .ok (.invokestatic 152, 3) := by decide +kernel
theorem d_M_base_62 : decode b_M_base 62 = .ok (.istore 5, 2) := by decide +kernel
theorem d_M_base_64 : decode b_M_base 64 = .ok (.aload_n 0, 1) := by decide +kernel
theorem d_M_base_65 : decode b_M_base 65 = .ok (.iload_n 3, 1) := by decide +kernel
theorem d_M_base_66 : decode b_M_base 66 = .ok (.iload 5, 2) := by decide +kernel
theorem d_M_base_68 : decode b_M_base 68 = .ok (.invokevirtual 155, 3) := by decide +kernel
theorem d_M_base_71 : decode b_M_base 71 = .ok (.aload_n 0, 1) := by decide +kernel
theorem d_M_base_72 : decode b_M_base 72 = .ok (.getfield 79, 3) := by decide +kernel
theorem d_M_base_75 : decode b_M_base 75 = .ok (.iload_n 3, 1) := by decide +kernel
theorem d_M_base_76 : decode b_M_base 76 = .ok (.dup2, 1) := by decide +kernel
theorem d_M_base_77 : decode b_M_base 77 = .ok (.iaload, 1) := by decide +kernel
theorem d_M_base_78 : decode b_M_base 78 = .ok (.iconst 1, 1) := by decide +kernel
theorem d_M_base_79 : decode b_M_base 79 = .ok (.iload 5, 2) := by decide +kernel
theorem d_M_base_81 : decode b_M_base 81 = .ok (.ishl, 1) := by decide +kernel
theorem d_M_base_82 : decode b_M_base 82 = .ok (.ior, 1) := by decide +kernel
theorem d_M_base_83 : decode b_M_base 83 = .ok (.iastore, 1) := by decide +kernel
theorem d_M_base_84 : decode b_M_base 84 = .ok (.goto 90, 3) := by decide +kernel
theorem d_M_base_87 : decode b_M_base 87 = .ok (.aload_n 0, 1) := by decide +kernel
theorem d_M_base_88 : decode b_M_base 88 = .ok (.getfield 79, 3) := by decide +kernel
theorem d_M_base_91 : decode b_M_base 91 = .ok (.iload_n 3, 1) := by decide +kernel
theorem d_M_base_92 : decode b_M_base 92 = .ok (.iaload, 1) := by decide +kernel
theorem d_M_base_93 : decode b_M_base 93 = .ok (.ifCond .ne 63, 3) := by decide +kernel
theorem d_M_base_96 : decode b_M_base 96 = .ok (.iconst 0, 1) := by decide +kernel
theorem d_M_base_97 : decode b_M_base 97 = .ok (.istore 5, 2) := by decide +kernel
theorem d_M_base_99 : decode b_M_base 99 = .ok (.iload 5, 2) := by decide +kernel
theorem d_M_base_101 : decode b_M_base 101 = .ok (.sipush 4096, 3) := by decide +kernel
theorem d_M_base_104 : decode b_M_base 104 = .ok (.if_icmp .ge 36, 3) := by decide +kernel
theorem d_M_base_107 : decode b_M_base 107 = .ok (.aload_n 0, 1) := by decide +kernel
theorem d_M_base_108 : decode b_M_base 108 = .ok (.getfield 83, 3) := by decide +kernel
theorem d_M_base_111 : decode b_M_base 111 = .ok (.sipush 4096, 3) := by decide +kernel
theorem d_M_base_114 : decode b_M_base 114 = .ok (.iload_n 3, 1) := by decide +kernel
theorem d_M_base_115 : decode b_M_base 115 = .ok (.imul, 1) := by decide +kernel
theorem d_M_base_116 : decode b_M_base 116 = .ok (.iload 5, 2) := by decide +kernel
theorem d_M_base_118 : decode b_M_base 118 = .ok (.iadd, 1) := by decide +kernel
theorem d_M_base_119 : decode b_M_base 119 = .ok (.aload_n 0, 1) := by decide +kernel
theorem d_M_base_120 : decode b_M_base 120 = .ok (.getfield 8, 3) := by decide +kernel
theorem d_M_base_123 : decode b_M_base 123 = .ok (.sipush 4096, 3) := by decide +kernel
theorem d_M_base_126 : decode b_M_base 126 = .ok (.iload 4, 2) := by decide +kernel
theorem d_M_base_128 : decode b_M_base 128 = .ok (.imul, 1) := by decide +kernel
theorem d_M_base_129 : decode b_M_base 129 = .ok (.iload 5, 2) := by decide +kernel
theorem d_M_base_131 : decode b_M_base 131 = .ok (.iadd, 1) := by decide +kernel
theorem d_M_base_132 : decode b_M_base 132 = .ok (.iaload, 1) := by decide +kernel
theorem d_M_base_133 : decode b_M_base 133 = .ok (.iastore, 1) := by decide +kernel
theorem d_M_base_134 : decode b_M_base 134 = .ok (.iinc 5 1, 3) := by decide +kernel
theorem d_M_base_137 : decode b_M_base 137 = .ok (.goto (-38), 3) := by decide +kernel
theorem d_M_base_140 : decode b_M_base 140 = .ok (.aload_n 0, 1) := by decide +kernel
theorem d_M_base_141 : decode b_M_base 141 = .ok (.getfield 79, 3) := by decide +kernel
theorem d_M_base_144 : decode b_M_base 144 = .ok (.iload_n 3, 1) := by decide +kernel
theorem d_M_base_145 : decode b_M_base 145 = .ok (.dup2, 1) := by decide +kernel
theorem d_M_base_146 : decode b_M_base 146 = .ok (.iaload, 1) := by decide +kernel
theorem d_M_base_147 : decode b_M_base 147 = .ok (.iconst 1, 1) := by decide +kernel
theorem d_M_base_148 : decode b_M_base 148 = .ok (.iload 4, 2) := by decide +kernel
theorem d_M_base_150 : decode b_M_base 150 = .ok (.ishl, 1) := by decide +kernel
theorem d_M_base_151 : decode b_M_base 151 = .ok (.ior, 1) := by decide +kernel
theorem d_M_base_152 : decode b_M_base 152 = .ok (.iastore, 1) := by decide +kernel
theorem d_M_base_153 : decode b_M_base 153 = .ok (.goto 21, 3) := by decide +kernel
theorem d_M_base_156 : decode b_M_base 156 = .ok (.aload_n 0, 1) := by decide +kernel
theorem d_M_base_157 : decode b_M_base 157 = .ok (.iload_n 3, 1) := by decide +kernel
theorem d_M_base_158 : decode b_M_base 158 = .ok (.iconst 1, 1) := by decide +kernel
theorem d_M_base_159 : decode b_M_base 159 = .ok (.iadd, 1) := by decide +kernel
theorem d_M_base_160 : decode b_M_base 160 = .ok (.aload_n 0, 1) := by decide +kernel
theorem d_M_base_161 : decode b_M_base 161 = .ok (.getfield 79, 3) := by decide +kernel
theorem d_M_base_164 : decode b_M_base 164 = .ok (.iload_n 3, 1) := by decide +kernel
theorem d_M_base_165 : decode b_M_base 165 = .ok (.iaload, 1) := by decide +kernel
theorem d_M_base_166 : decode b_M_base 166 = .ok (.iload 4, 2) := by decide +kernel
theorem d_M_base_168 : decode b_M_base 168 = .ok (.invokevirtual 149, 3) := by decide +kernel
theorem d_M_base_171 : decode b_M_base 171 = .ok (.iinc 3 1, 3) := by decide +kernel
theorem d_M_base_174 : decode b_M_base 174 = .ok (.goto (-163), 3) := by decide +kernel
theorem d_M_base_177 : decode b_M_base 177 = .ok (.return_, 1) := by decide +kernel
theorem d_M_beginBase_0 : decode b_M_beginBase 0 = .ok (.aload_n 0, 1) := by decide +kernel
theorem d_M_beginBase_1 : decode b_M_beginBase 1 = .ok (.getfield 76, 3) := by decide +kernel
theorem d_M_beginBase_4 : decode b_M_beginBase 4 = .ok (.iload_n 1, 1) := by decide +kernel
theorem d_M_beginBase_5 : decode b_M_beginBase 5 = .ok (.aload_n 0, 1) := by decide +kernel
theorem d_M_beginBase_6 : decode b_M_beginBase 6 = .ok (.iload_n 2, 1) := by decide +kernel
theorem d_M_beginBase_7 : decode b_M_beginBase 7 = .ok (.iload_n 3, 1) := by decide +kernel
theorem d_M_beginBase_8 : decode b_M_beginBase 8 = .ok (.invokevirtual 145, 3) := by decide +kernel
theorem d_M_beginBase_11 : decode b_M_beginBase 11 = .ok (.iastore, 1) := by decide +kernel
theorem d_M_beginBase_12 : decode b_M_beginBase 12 = .ok (.aload_n 0, 1) := by decide +kernel
theorem d_M_beginBase_13 : decode b_M_beginBase 13 = .ok (.getfield 79, 3) := by decide +kernel
theorem d_M_beginBase_16 : decode b_M_beginBase 16 = .ok (.iload_n 1, 1) := by decide +kernel
theorem d_M_beginBase_17 : decode b_M_beginBase 17 = .ok (.iconst 0, 1) := by decide +kernel
theorem d_M_beginBase_18 : decode b_M_beginBase 18 = .ok (.iastore, 1) := by decide +kernel
theorem d_M_beginBase_19 : decode b_M_beginBase 19 = .ok (.return_, 1) := by decide +kernel
theorem d_M_nearestOf_0 : decode b_M_nearestOf 0 = .ok (.aload_n 0, 1) := by decide +kernel
theorem d_M_nearestOf_1 : decode b_M_nearestOf 1 = .ok (.iload_n 1, 1) := by decide +kernel
theorem d_M_nearestOf_2 : decode b_M_nearestOf 2 = .ok (.invokevirtual 142, 3) := by decide +kernel
theorem d_M_nearestOf_5 : decode b_M_nearestOf 5 = .ok (.aload_n 0, 1) := by decide +kernel
theorem d_M_nearestOf_6 : decode b_M_nearestOf 6 = .ok (.iconst 1, 1) := by decide +kernel
theorem d_M_nearestOf_7 : decode b_M_nearestOf 7 = .ok (.iload_n 2, 1) := by decide +kernel
theorem d_M_nearestOf_8 : decode b_M_nearestOf 8 = .ok (.ishl, 1) := by decide +kernel
theorem d_M_nearestOf_9 : decode b_M_nearestOf 9 = .ok (.invokevirtual 142, 3) := by decide +kernel
theorem d_M_nearestOf_12 : decode b_M_nearestOf 12 = .ok (.iand, 1) := by decide +kernel
theorem d_M_nearestOf_13 : decode b_M_nearestOf 13 = .ok (.istore_n 3, 1) := by decide +kernel
theorem d_M_nearestOf_14 : decode b_M_nearestOf 14 = .ok (.iconst 0, 1) := by decide +kernel
theorem d_M_nearestOf_15 : decode b_M_nearestOf 15 = .ok (.istore 4, 2) := by decide +kernel
theorem d_M_nearestOf_17 : decode b_M_nearestOf 17 = .ok (.iconst 0, 1) := by decide +kernel
theorem d_M_nearestOf_18 : decode b_M_nearestOf 18 = .ok (.istore 5, 2) := by decide +kernel
theorem d_M_nearestOf_20 : decode b_M_nearestOf 20 = .ok (.iload 5, 2) := by decide +kernel
theorem d_M_nearestOf_22 : decode b_M_nearestOf 22 = .ok (.aload_n 0, 1) := by decide +kernel
theorem d_M_nearestOf_23 : decode b_M_nearestOf 23 = .ok (.getfield 26, 3) := by decide +kernel
theorem d_M_nearestOf_26 : decode b_M_nearestOf 26 = .ok (.if_icmp .ge 98, 3) := by decide +kernel
theorem d_M_nearestOf_29 : decode b_M_nearestOf 29 = .ok (.iload_n 3, 1) := by decide +kernel
theorem d_M_nearestOf_30 : decode b_M_nearestOf 30 = .ok (.iload 5, 2) := by decide +kernel
theorem d_M_nearestOf_32 : decode b_M_nearestOf 32 = .ok (.ishr, 1) := by decide +kernel
theorem d_M_nearestOf_33 : decode b_M_nearestOf 33 = .ok (.iconst 1, 1) := by decide +kernel
theorem d_M_nearestOf_34 : decode b_M_nearestOf 34 = .ok (.iand, 1) := by decide +kernel
theorem d_M_nearestOf_35 : decode b_M_nearestOf 35 = .ok (.ifCond .ne 6, 3) := by decide +kernel
theorem d_M_nearestOf_38 : decode b_M_nearestOf 38 = .ok (.goto 80, 3) := by decide +kernel
theorem d_M_nearestOf_41 : decode b_M_nearestOf 41 = .ok (.iconst 0, 1) := by decide +kernel
theorem d_M_nearestOf_42 : decode b_M_nearestOf 42 = .ok (.istore 6, 2) := by decide +kernel
theorem d_M_nearestOf_44 : decode b_M_nearestOf 44 = .ok (.iload 5, 2) := by decide +kernel
theorem d_M_nearestOf_46 : decode b_M_nearestOf 46 = .ok (.iconst 1, 1) := by decide +kernel
theorem d_M_nearestOf_47 : decode b_M_nearestOf 47 = .ok (.iadd, 1) := by decide +kernel
theorem d_M_nearestOf_48 : decode b_M_nearestOf 48 = .ok (.istore 7, 2) := by decide +kernel
theorem d_M_nearestOf_50 : decode b_M_nearestOf 50 = .ok (.iload 7, 2) := by decide +kernel
theorem d_M_nearestOf_52 : decode b_M_nearestOf 52 = .ok (.aload_n 0, 1) := by decide +kernel
theorem d_M_nearestOf_53 : decode b_M_nearestOf 53 = .ok (.getfield 26, 3) := by decide +kernel
theorem d_M_nearestOf_56 : decode b_M_nearestOf 56 = .ok (.if_icmp .ge 48, 3) := by decide +kernel
theorem d_M_nearestOf_59 : decode b_M_nearestOf 59 = .ok (.iload 6, 2) := by decide +kernel
theorem d_M_nearestOf_61 : decode b_M_nearestOf 61 = .ok (.ifCond .ne 30, 3) := by decide +kernel
theorem d_M_nearestOf_64 : decode b_M_nearestOf 64 = .ok (.iload_n 3, 1) := by decide +kernel
theorem d_M_nearestOf_65 : decode b_M_nearestOf 65 = .ok (.iload 7, 2) := by decide +kernel
theorem d_M_nearestOf_67 : decode b_M_nearestOf 67 = .ok (.ishr, 1) := by decide +kernel
theorem d_M_nearestOf_68 : decode b_M_nearestOf 68 = .ok (.iconst 1, 1) := by decide +kernel
theorem d_M_nearestOf_69 : decode b_M_nearestOf 69 = .ok (.iand, 1) := by decide +kernel
theorem d_M_nearestOf_70 : decode b_M_nearestOf 70 = .ok (.iconst 1, 1) := by decide +kernel
theorem d_M_nearestOf_71 : decode b_M_nearestOf 71 = .ok (.if_icmp .ne 24, 3) := by decide +kernel
theorem d_M_nearestOf_74 : decode b_M_nearestOf 74 = .ok (.aload_n 0, 1) := by decide +kernel
theorem d_M_nearestOf_75 : decode b_M_nearestOf 75 = .ok (.iconst 1, 1) := by decide +kernel
theorem d_M_nearestOf_76 : decode b_M_nearestOf 76 = .ok (.iload 7, 2) := by decide +kernel
theorem d_M_nearestOf_78 : decode b_M_nearestOf 78 = .ok (.ishl, 1) := by decide +kernel
theorem d_M_nearestOf_79 : decode b_M_nearestOf 79 = .ok (.invokevirtual 142, 3) := by decide +kernel
theorem d_M_nearestOf_82 : decode b_M_nearestOf 82 = .ok (.iload 5, 2) := by decide +kernel
theorem d_M_nearestOf_84 : decode b_M_nearestOf 84 = .ok (.ishr, 1) := by decide +kernel
theorem d_M_nearestOf_85 : decode b_M_nearestOf 85 = .ok (.iconst 1, 1) := by decide +kernel
theorem d_M_nearestOf_86 : decode b_M_nearestOf 86 = .ok (.iand, 1) := by decide +kernel
theorem d_M_nearestOf_87 : decode b_M_nearestOf 87 = .ok (.iconst 1, 1) := by decide +kernel
theorem d_M_nearestOf_88 : decode b_M_nearestOf 88 = .ok (.if_icmp .ne 7, 3) := by decide +kernel
theorem d_M_nearestOf_91 : decode b_M_nearestOf 91 = .ok (.iconst 1, 1) := by decide +kernel
theorem d_M_nearestOf_92 : decode b_M_nearestOf 92 = .ok (.goto 4, 3) := by decide +kernel
theorem d_M_nearestOf_95 : decode b_M_nearestOf 95 = .ok (.iconst 0, 1) := by decide +kernel
theorem d_M_nearestOf_96 : decode b_M_nearestOf 96 = .ok (.istore 6, 2) := by decide +kernel
theorem d_M_nearestOf_98 : decode b_M_nearestOf 98 = .ok (.iinc 7 1, 3) := by decide +kernel
theorem d_M_nearestOf_101 : decode b_M_nearestOf 101 = .ok (.goto (-51), 3) := by decide +kernel
theorem d_M_nearestOf_104 : decode b_M_nearestOf 104 = .ok (.iload 6, 2) := by decide +kernel
theorem d_M_nearestOf_106 : decode b_M_nearestOf 106 = .ok (.ifCond .ne 12, 3) := by decide +kernel
theorem d_M_nearestOf_109 : decode b_M_nearestOf 109 = .ok (.iload 4, 2) := by decide +kernel
theorem d_M_nearestOf_111 : decode b_M_nearestOf 111 = .ok (.iconst 1, 1) := by decide +kernel
theorem d_M_nearestOf_112 : decode b_M_nearestOf 112 = .ok (.iload 5, 2) := by decide +kernel
theorem d_M_nearestOf_114 : decode b_M_nearestOf 114 = .ok (.ishl, 1) := by decide +kernel
theorem d_M_nearestOf_115 : decode b_M_nearestOf 115 = .ok (.ior, 1) := by decide +kernel
theorem d_M_nearestOf_116 : decode b_M_nearestOf 116 = .ok (.istore 4, 2) := by decide +kernel
theorem d_M_nearestOf_118 : decode b_M_nearestOf 118 = .ok (.iinc 5 1, 3) := by decide +kernel
theorem d_M_nearestOf_121 : decode b_M_nearestOf 121 = .ok (.goto (-101), 3) := by decide +kernel
theorem d_M_nearestOf_124 : decode b_M_nearestOf 124 = .ok (.iload 4, 2) := by decide +kernel
theorem d_M_nearestOf_126 : decode b_M_nearestOf 126 = .ok (.ireturn, 1) := by decide +kernel
theorem d_M_next_0 : decode b_M_next 0 = .ok (.iconst 0, 1) := by decide +kernel
theorem d_M_next_1 : decode b_M_next 1 = .ok (.istore_n 2, 1) := by decide +kernel
theorem d_M_next_2 : decode b_M_next 2 = .ok (.iload_n 2, 1) := by decide +kernel
theorem d_M_next_3 : decode b_M_next 3 = .ok (.bipush 24, 2) := by decide +kernel
theorem d_M_next_5 : decode b_M_next 5 = .ok (.if_icmp .ge 21, 3) := by decide +kernel
theorem d_M_next_8 : decode b_M_next 8 = .ok (.iload_n 0, 1) := by decide +kernel
theorem d_M_next_9 : decode b_M_next 9 = .ok (.iload_n 1, 1) := by decide +kernel
theorem d_M_next_10 : decode b_M_next 10 = .ok (.iconst (-1), 1) := by decide +kernel
theorem d_M_next_11 : decode b_M_next 11 = .ok (.ixor, 1) := by decide +kernel
theorem d_M_next_12 : decode b_M_next 12 = .ok (.iand, 1) := by decide +kernel
theorem d_M_next_13 : decode b_M_next 13 = .ok (.iload_n 2, 1) := by decide +kernel
theorem d_M_next_14 : decode b_M_next 14 = .ok (.ishr, 1) := by decide +kernel
theorem d_M_next_15 : decode b_M_next 15 = .ok (.iconst 1, 1) := by decide +kernel
theorem d_M_next_16 : decode b_M_next 16 = .ok (.iand, 1) := by decide +kernel
theorem d_M_next_17 : decode b_M_next 17 = .ok (.ifCond .ne 9, 3) := by decide +kernel
theorem d_M_next_20 : decode b_M_next 20 = .ok (.iinc 2 1, 3) := by decide +kernel
theorem d_M_next_23 : decode b_M_next 23 = .ok (.goto (-21), 3) := by decide +kernel
theorem d_M_next_26 : decode b_M_next 26 = .ok (.iload_n 2, 1) := by decide +kernel
theorem d_M_next_27 : decode b_M_next 27 = .ok (.ireturn, 1) := by decide +kernel
theorem d_M_joinBase_0 : decode b_M_joinBase 0 = .ok (.iconst 0, 1) := by decide +kernel
theorem d_M_joinBase_1 : decode b_M_joinBase 1 = .ok (.istore_n 3, 1) := by decide +kernel
theorem d_M_joinBase_2 : decode b_M_joinBase 2 = .ok (.iload_n 3, 1) := by decide +kernel
theorem d_M_joinBase_3 : decode b_M_joinBase 3 = .ok (.sipush 4096, 3) := by decide +kernel
theorem d_M_joinBase_6 : decode b_M_joinBase 6 = .ok (.if_icmp .ge 107, 3) := by decide +kernel
theorem d_M_joinBase_9 : decode b_M_joinBase 9 = .ok (.aload_n 0, 1) := by decide +kernel
theorem d_M_joinBase_10 : decode b_M_joinBase 10 = .ok (.getfield 83, 3) := by decide +kernel
theorem d_M_joinBase_13 : decode b_M_joinBase 13 = .ok (.sipush 4096, 3) := by decide +kernel
theorem d_M_joinBase_16 : decode b_M_joinBase 16 = .ok (.iload_n 1, 1) := by decide +kernel
theorem d_M_joinBase_17 : decode b_M_joinBase 17 = .ok (.imul, 1) := by decide +kernel
theorem d_M_joinBase_18 : decode b_M_joinBase 18 = .ok (.iload_n 3, 1) := by decide +kernel
theorem d_M_joinBase_19 : decode b_M_joinBase 19 = .ok (.iadd, 1) := by decide +kernel
theorem d_M_joinBase_20 : decode b_M_joinBase 20 = .ok (.iaload, 1) := by decide +kernel
theorem d_M_joinBase_21 : decode b_M_joinBase 21 = .ok (.istore 4, 2) := by decide +kernel
theorem d_M_joinBase_23 : decode b_M_joinBase 23 = .ok (.aload_n 0, 1) := by decide +kernel
theorem d_M_joinBase_24 : decode b_M_joinBase 24 = .ok (.getfield 8, 3) := by decide +kernel
theorem d_M_joinBase_27 : decode b_M_joinBase 27 = .ok (.sipush 4096, 3) := by decide +kernel
theorem d_M_joinBase_30 : decode b_M_joinBase 30 = .ok (.iload_n 2, 1) := by decide +kernel
theorem d_M_joinBase_31 : decode b_M_joinBase 31 = .ok (.imul, 1) := by decide +kernel
theorem d_M_joinBase_32 : decode b_M_joinBase 32 = .ok (.iload_n 3, 1) := by decide +kernel
theorem d_M_joinBase_33 : decode b_M_joinBase 33 = .ok (.iadd, 1) := by decide +kernel
theorem d_M_joinBase_34 : decode b_M_joinBase 34 = .ok (.iaload, 1) := by decide +kernel
theorem d_M_joinBase_35 : decode b_M_joinBase 35 = .ok (.istore 5, 2) := by decide +kernel
theorem d_M_joinBase_37 : decode b_M_joinBase 37 = .ok (.aload_n 0, 1) := by decide +kernel
theorem d_M_joinBase_38 : decode b_M_joinBase 38 = .ok (.getfield 83, 3) := by decide +kernel
theorem d_M_joinBase_41 : decode b_M_joinBase 41 = .ok (.sipush 4096, 3) := by decide +kernel
theorem d_M_joinBase_44 : decode b_M_joinBase 44 = .ok (.iload_n 1, 1) := by decide +kernel
theorem d_M_joinBase_45 : decode b_M_joinBase 45 = .ok (.imul, 1) := by decide +kernel
theorem d_M_joinBase_46 : decode b_M_joinBase 46 = .ok (.sipush 4096, 3) := by decide +kernel
theorem d_M_joinBase_49 : decode b_M_joinBase 49 = .ok (.iadd, 1) := by decide +kernel
theorem d_M_joinBase_50 : decode b_M_joinBase 50 = .ok (.iload_n 3, 1) := by decide +kernel
theorem d_M_joinBase_51 : decode b_M_joinBase 51 = .ok (.iadd, 1) := by decide +kernel
theorem d_M_joinBase_52 : decode b_M_joinBase 52 = .ok (.iaload, 1) := by decide +kernel
theorem d_M_joinBase_53 : decode b_M_joinBase 53 = .ok (.istore 6, 2) := by decide +kernel
theorem d_M_joinBase_55 : decode b_M_joinBase 55 = .ok (.iload 4, 2) := by decide +kernel
theorem d_M_joinBase_57 : decode b_M_joinBase 57 = .ok (.iload 6, 2) := by decide +kernel
theorem d_M_joinBase_59 : decode b_M_joinBase 59 = .ok (.if_icmp .ne 20, 3) := by decide +kernel
theorem d_M_joinBase_62 : decode b_M_joinBase 62 = .ok (.aload_n 0, 1) := by decide +kernel
theorem d_M_joinBase_63 : decode b_M_joinBase 63 = .ok (.getfield 83, 3) := by decide +kernel
theorem d_M_joinBase_66 : decode b_M_joinBase 66 = .ok (.sipush 4096, 3) := by decide +kernel
theorem d_M_joinBase_69 : decode b_M_joinBase 69 = .ok (.iload_n 1, 1) := by decide +kernel
theorem d_M_joinBase_70 : decode b_M_joinBase 70 = .ok (.imul, 1) := by decide +kernel
theorem d_M_joinBase_71 : decode b_M_joinBase 71 = .ok (.iload_n 3, 1) := by decide +kernel
theorem d_M_joinBase_72 : decode b_M_joinBase 72 = .ok (.iadd, 1) := by decide +kernel
theorem d_M_joinBase_73 : decode b_M_joinBase 73 = .ok (.iload 5, 2) := by decide +kernel
theorem d_M_joinBase_75 : decode b_M_joinBase 75 = .ok (.iastore, 1) := by decide +kernel
theorem d_M_joinBase_76 : decode b_M_joinBase 76 = .ok (.goto 31, 3) := by decide +kernel
theorem d_M_joinBase_79 : decode b_M_joinBase 79 = .ok (.iload 5, 2) := by decide +kernel
theorem d_M_joinBase_81 : decode b_M_joinBase 81 = .ok (.iload 6, 2) := by decide +kernel
theorem d_M_joinBase_83 : decode b_M_joinBase 83 = .ok (.if_icmp .eq 24, 3) := by decide +kernel
theorem d_M_joinBase_86 : decode b_M_joinBase 86 = .ok (.iload 5, 2) := by decide +kernel
theorem d_M_joinBase_88 : decode b_M_joinBase 88 = .ok (.iload 4, 2) := by decide +kernel
theorem d_M_joinBase_90 : decode b_M_joinBase 90 = .ok (.if_icmp .eq 17, 3) := by decide +kernel
theorem d_M_joinBase_93 : decode b_M_joinBase 93 = .ok (.aload_n 0, 1) := by decide +kernel
theorem d_M_joinBase_94 : decode b_M_joinBase 94 = .ok (.getfield 83, 3) := by decide +kernel
theorem d_M_joinBase_97 : decode b_M_joinBase 97 = .ok (.sipush 4096, 3) := by decide +kernel
theorem d_M_joinBase_100 : decode b_M_joinBase 100 = .ok (.iload_n 1, 1) := by decide +kernel
theorem d_M_joinBase_101 : decode b_M_joinBase 101 = .ok (.imul, 1) := by decide +kernel
theorem d_M_joinBase_102 : decode b_M_joinBase 102 = .ok (.iload_n 3, 1) := by decide +kernel
theorem d_M_joinBase_103 : decode b_M_joinBase 103 = .ok (.iadd, 1) := by decide +kernel
theorem d_M_joinBase_104 : decode b_M_joinBase 104 = .ok (.ldc 89, 2) := by decide +kernel
theorem d_M_joinBase_106 : decode b_M_joinBase 106 = .ok (.iastore, 1) := by decide +kernel
theorem d_M_joinBase_107 : decode b_M_joinBase 107 = .ok (.iinc 3 1, 3) := by decide +kernel
theorem d_M_joinBase_110 : decode b_M_joinBase 110 = .ok (.goto (-108), 3) := by decide +kernel
theorem d_M_joinBase_113 : decode b_M_joinBase 113 = .ok (.return_, 1) := by decide +kernel
theorem d_M_madeIn_0 : decode b_M_madeIn 0 = .ok (.aload_n 0, 1) := by decide +kernel
theorem d_M_madeIn_1 : decode b_M_madeIn 1 = .ok (.getfield 14, 3) := by decide +kernel
theorem d_M_madeIn_4 : decode b_M_madeIn 4 = .ok (.iload_n 1, 1) := by decide +kernel
theorem d_M_madeIn_5 : decode b_M_madeIn 5 = .ok (.iaload, 1) := by decide +kernel
theorem d_M_madeIn_6 : decode b_M_madeIn 6 = .ok (.ifCond .ge 7, 3) := by decide +kernel
theorem d_M_madeIn_9 : decode b_M_madeIn 9 = .ok (.iconst (-1), 1) := by decide +kernel
theorem d_M_madeIn_10 : decode b_M_madeIn 10 = .ok (.goto 13, 3) := by decide +kernel
theorem d_M_madeIn_13 : decode b_M_madeIn 13 = .ok (.aload_n 0, 1) := by decide +kernel
theorem d_M_madeIn_14 : decode b_M_madeIn 14 = .ok (.getfield 14, 3) := by decide +kernel
theorem d_M_madeIn_17 : decode b_M_madeIn 17 = .ok (.iload_n 1, 1) := by decide +kernel
theorem d_M_madeIn_18 : decode b_M_madeIn 18 = .ok (.iaload, 1) := by decide +kernel
theorem d_M_madeIn_19 : decode b_M_madeIn 19 = .ok (.sipush 4096, 3) := by decide +kernel
theorem d_M_madeIn_22 : decode b_M_madeIn 22 = .ok (.idiv, 1) := by decide +kernel
theorem d_M_madeIn_23 : decode b_M_madeIn 23 = .ok (.ireturn, 1) := by decide +kernel
theorem d_M_note_0 : decode b_M_note 0 = .ok (.sipush 4096, 3) := by decide +kernel
theorem d_M_note_3 : decode b_M_note 3 = .ok (.iload_n 1, 1) := by decide +kernel
theorem d_M_note_4 : decode b_M_note 4 = .ok (.imul, 1) := by decide +kernel
theorem d_M_note_5 : decode b_M_note 5 = .ok (.aload_n 0, 1) := by decide +kernel
theorem d_M_note_6 : decode b_M_note 6 = .ok (.getfield 52, 3) := by decide +kernel
theorem d_M_note_9 : decode b_M_note 9 = .ok (.iload_n 1, 1) := by decide +kernel
theorem d_M_note_10 : decode b_M_note 10 = .ok (.iaload, 1) := by decide +kernel
theorem d_M_note_11 : decode b_M_note 11 = .ok (.iadd, 1) := by decide +kernel
theorem d_M_note_12 : decode b_M_note 12 = .ok (.istore 6, 2) := by decide +kernel
theorem d_M_note_14 : decode b_M_note 14 = .ok (.aload_n 0, 1) := by decide +kernel
theorem d_M_note_15 : decode b_M_note 15 = .ok (.getfield 40, 3) := by decide +kernel
theorem d_M_note_18 : decode b_M_note 18 = .ok (.iload 6, 2) := by decide +kernel
theorem d_M_note_20 : decode b_M_note 20 = .ok (.iload_n 2, 1) := by decide +kernel
theorem d_M_note_21 : decode b_M_note 21 = .ok (.iastore, 1) := by decide +kernel
theorem d_M_note_22 : decode b_M_note 22 = .ok (.aload_n 0, 1) := by decide +kernel
theorem d_M_note_23 : decode b_M_note 23 = .ok (.getfield 43, 3) := by decide +kernel
theorem d_M_note_26 : decode b_M_note 26 = .ok (.iload 6, 2) := by decide +kernel
theorem d_M_note_28 : decode b_M_note 28 = .ok (.iload_n 3, 1) := by decide +kernel
theorem d_M_note_29 : decode b_M_note 29 = .ok (.iastore, 1) := by decide +kernel
theorem d_M_note_30 : decode b_M_note 30 = .ok (.aload_n 0, 1) := by decide +kernel
theorem d_M_note_31 : decode b_M_note 31 = .ok (.getfield 46, 3) := by decide +kernel
theorem d_M_note_34 : decode b_M_note 34 = .ok (.iload 6, 2) := by decide +kernel
theorem d_M_note_36 : decode b_M_note 36 = .ok (.iload 4, 2) := by decide +kernel
theorem d_M_note_38 : decode b_M_note 38 = .ok (.iastore, 1) := by decide +kernel
theorem d_M_note_39 : decode b_M_note 39 = .ok (.aload_n 0, 1) := by decide +kernel
theorem d_M_note_40 : decode b_M_note 40 = .ok (.getfield 49, 3) := by decide +kernel
theorem d_M_note_43 : decode b_M_note 43 = .ok (.iload 6, 2) := by decide +kernel
theorem d_M_note_45 : decode b_M_note 45 = .ok (.iload 5, 2) := by decide +kernel
theorem d_M_note_47 : decode b_M_note 47 = .ok (.iastore, 1) := by decide +kernel
theorem d_M_note_48 : decode b_M_note 48 = .ok (.aload_n 0, 1) := by decide +kernel
theorem d_M_note_49 : decode b_M_note 49 = .ok (.getfield 55, 3) := by decide +kernel
theorem d_M_note_52 : decode b_M_note 52 = .ok (.iload 6, 2) := by decide +kernel
theorem d_M_note_54 : decode b_M_note 54 = .ok (.iconst 0, 1) := by decide +kernel
theorem d_M_note_55 : decode b_M_note 55 = .ok (.bastore, 1) := by decide +kernel
theorem d_M_note_56 : decode b_M_note 56 = .ok (.aload_n 0, 1) := by decide +kernel
theorem d_M_note_57 : decode b_M_note 57 = .ok (.getfield 52, 3) := by decide +kernel
theorem d_M_note_60 : decode b_M_note 60 = .ok (.iload_n 1, 1) := by decide +kernel
theorem d_M_note_61 : decode b_M_note 61 = .ok (.dup2, 1) := by decide +kernel
theorem d_M_note_62 : decode b_M_note 62 = .ok (.iaload, 1) := by decide +kernel
theorem d_M_note_63 : decode b_M_note 63 = .ok (.iconst 1, 1) := by decide +kernel
theorem d_M_note_64 : decode b_M_note 64 = .ok (.iadd, 1) := by decide +kernel
theorem d_M_note_65 : decode b_M_note 65 = .ok (.iastore, 1) := by decide +kernel
theorem d_M_note_66 : decode b_M_note 66 = .ok (.return_, 1) := by decide +kernel
theorem d_M_conflict_0 : decode b_M_conflict 0 = .ok (.aload_n 0, 1) := by decide +kernel
theorem d_M_conflict_1 : decode b_M_conflict 1 = .ok (.iconst 0, 1) := by decide +kernel
theorem d_M_conflict_2 : decode b_M_conflict 2 = .ok (.putfield 90, 3) := by decide +kernel
theorem d_M_conflict_5 : decode b_M_conflict 5 = .ok (.aload_n 0, 1) := by decide +kernel
theorem d_M_conflict_6 : decode b_M_conflict 6 = .ok (.iload_n 1, 1) := by decide +kernel
theorem d_M_conflict_7 : decode b_M_conflict 7 = .ok (.iload_n 2, 1) := by decide +kernel
theorem d_M_conflict_8 : decode b_M_conflict 8 = .ok (.invokevirtual 168, 3) := by decide +kernel
theorem d_M_conflict_11 : decode b_M_conflict 11 = .ok (.ifCond .ne 6, 3) := by decide +kernel
theorem d_M_conflict_14 : decode b_M_conflict 14 = .ok (.ldc 89, 2) := by decide +kernel
theorem d_M_conflict_16 : decode b_M_conflict 16 = .ok (.ireturn, 1) := by decide +kernel
theorem d_M_conflict_17 : decode b_M_conflict 17 = .ok (.sipush 4096, 3) := by decide +kernel
theorem d_M_conflict_20 : decode b_M_conflict 20 = .ok (.iload_n 1, 1) := by decide +kernel
theorem d_M_conflict_21 : decode b_M_conflict 21 = .ok (.imul, 1) := by decide +kernel
theorem d_M_conflict_22 : decode b_M_conflict 22 = .ok (.iload_n 2, 1) := by decide +kernel
theorem d_M_conflict_23 : decode b_M_conflict 23 = .ok (.iadd, 1) := by decide +kernel
theorem d_M_conflict_24 : decode b_M_conflict 24 = .ok (.istore 4, 2) := by decide +kernel
theorem d_M_conflict_26 : decode b_M_conflict 26 = .ok (.iload_n 3, 1) := by decide +kernel
theorem d_M_conflict_27 : decode b_M_conflict 27 = .ok (.tableswitch 118 0 6 #[41, 53, 64, 78, 86, 94, 102], 41) := by decide +kernel
theorem d_M_conflict_68 : decode b_M_conflict 68 = .ok (.aload_n 0, 1) := by decide +kernel
theorem d_M_conflict_69 : decode b_M_conflict 69 = .ok (.getfield 40, 3) := by decide +kernel
theorem d_M_conflict_72 : decode b_M_conflict 72 = .ok (.iload 4, 2) := by decide +kernel
theorem d_M_conflict_74 : decode b_M_conflict 74 = .ok (.iaload, 1) := by decide +kernel
theorem d_M_conflict_75 : decode b_M_conflict 75 = .ok (.sipush 1024, 3) := by decide +kernel
theorem d_M_conflict_78 : decode b_M_conflict 78 = .ok (.idiv, 1) := by decide +kernel
theorem d_M_conflict_79 : decode b_M_conflict 79 = .ok (.ireturn, 1) := by decide +kernel
theorem d_M_conflict_80 : decode b_M_conflict 80 = .ok (.aload_n 0, 1) := by decide +kernel
theorem d_M_conflict_81 : decode b_M_conflict 81 = .ok (.getfield 40, 3) := by decide +kernel
theorem d_M_conflict_84 : decode b_M_conflict 84 = .ok (.iload 4, 2) := by decide +kernel
theorem d_M_conflict_86 : decode b_M_conflict 86 = .ok (.iaload, 1) := by decide +kernel
theorem d_M_conflict_87 : decode b_M_conflict 87 = .ok (.bipush 32, 2) := by decide +kernel
theorem d_M_conflict_89 : decode b_M_conflict 89 = .ok (.irem, 1) := by decide +kernel
theorem d_M_conflict_90 : decode b_M_conflict 90 = .ok (.ireturn, 1) := by decide +kernel
theorem d_M_conflict_91 : decode b_M_conflict 91 = .ok (.aload_n 0, 1) := by decide +kernel
theorem d_M_conflict_92 : decode b_M_conflict 92 = .ok (.getfield 40, 3) := by decide +kernel
theorem d_M_conflict_95 : decode b_M_conflict 95 = .ok (.iload 4, 2) := by decide +kernel
theorem d_M_conflict_97 : decode b_M_conflict 97 = .ok (.iaload, 1) := by decide +kernel
theorem d_M_conflict_98 : decode b_M_conflict 98 = .ok (.bipush 32, 2) := by decide +kernel
theorem d_M_conflict_100 : decode b_M_conflict 100 = .ok (.idiv, 1) := by decide +kernel
theorem d_M_conflict_101 : decode b_M_conflict 101 = .ok (.bipush 32, 2) := by decide +kernel
theorem d_M_conflict_103 : decode b_M_conflict 103 = .ok (.irem, 1) := by decide +kernel
theorem d_M_conflict_104 : decode b_M_conflict 104 = .ok (.ireturn, 1) := by decide +kernel
theorem d_M_conflict_105 : decode b_M_conflict 105 = .ok (.aload_n 0, 1) := by decide +kernel
theorem d_M_conflict_106 : decode b_M_conflict 106 = .ok (.getfield 43, 3) := by decide +kernel
theorem d_M_conflict_109 : decode b_M_conflict 109 = .ok (.iload 4, 2) := by decide +kernel
theorem d_M_conflict_111 : decode b_M_conflict 111 = .ok (.iaload, 1) := by decide +kernel
theorem d_M_conflict_112 : decode b_M_conflict 112 = .ok (.ireturn, 1) := by decide +kernel
theorem d_M_conflict_113 : decode b_M_conflict 113 = .ok (.aload_n 0, 1) := by decide +kernel
theorem d_M_conflict_114 : decode b_M_conflict 114 = .ok (.getfield 46, 3) := by decide +kernel
theorem d_M_conflict_117 : decode b_M_conflict 117 = .ok (.iload 4, 2) := by decide +kernel
theorem d_M_conflict_119 : decode b_M_conflict 119 = .ok (.iaload, 1) := by decide +kernel
theorem d_M_conflict_120 : decode b_M_conflict 120 = .ok (.ireturn, 1) := by decide +kernel
theorem d_M_conflict_121 : decode b_M_conflict 121 = .ok (.aload_n 0, 1) := by decide +kernel
theorem d_M_conflict_122 : decode b_M_conflict 122 = .ok (.getfield 49, 3) := by decide +kernel
theorem d_M_conflict_125 : decode b_M_conflict 125 = .ok (.iload 4, 2) := by decide +kernel
theorem d_M_conflict_127 : decode b_M_conflict 127 = .ok (.iaload, 1) := by decide +kernel
theorem d_M_conflict_128 : decode b_M_conflict 128 = .ok (.ireturn, 1) := by decide +kernel
theorem d_M_conflict_129 : decode b_M_conflict 129 = .ok (.aload_n 0, 1) := by decide +kernel
theorem d_M_conflict_130 : decode b_M_conflict 130 = .ok (.getfield 55, 3) := by decide +kernel
theorem d_M_conflict_133 : decode b_M_conflict 133 = .ok (.iload 4, 2) := by decide +kernel
theorem d_M_conflict_135 : decode b_M_conflict 135 = .ok (.baload, 1) := by decide +kernel
theorem d_M_conflict_136 : decode b_M_conflict 136 = .ok (.ifCond .eq 7, 3) := by decide +kernel
theorem d_M_conflict_139 : decode b_M_conflict 139 = .ok (.iconst 1, 1) := by decide +kernel
theorem d_M_conflict_140 : decode b_M_conflict 140 = .ok (.goto 4, 3) := by decide +kernel
theorem d_M_conflict_143 : decode b_M_conflict 143 = .ok (.iconst 0, 1) := by decide +kernel
theorem d_M_conflict_144 : decode b_M_conflict 144 = .ok (.ireturn, 1) := by decide +kernel
theorem d_M_conflict_145 : decode b_M_conflict 145 = .ok (.ldc 89, 2) := by decide +kernel
theorem d_M_conflict_147 : decode b_M_conflict 147 = .ok (.ireturn, 1) := by decide +kernel
theorem d_M_isConflict_0 : decode b_M_isConflict 0 = .ok (.aload_n 0, 1) := by decide +kernel
theorem d_M_isConflict_1 : decode b_M_isConflict 1 = .ok (.iload_n 1, 1) := by decide +kernel
theorem d_M_isConflict_2 : decode b_M_isConflict 2 = .ok (.invokevirtual 97, 3) := by decide +kernel
theorem d_M_isConflict_5 : decode b_M_isConflict 5 = .ok (.ifCond .eq 21, 3) := by decide +kernel
theorem d_M_isConflict_8 : decode b_M_isConflict 8 = .ok (.iload_n 2, 1) := by decide +kernel
theorem d_M_isConflict_9 : decode b_M_isConflict 9 = .ok (.ifCond .lt 17, 3) := by decide +kernel
theorem d_M_isConflict_12 : decode b_M_isConflict 12 = .ok (.iload_n 2, 1) := by decide +kernel
theorem d_M_isConflict_13 : decode b_M_isConflict 13 = .ok (.aload_n 0, 1) := by decide +kernel
theorem d_M_isConflict_14 : decode b_M_isConflict 14 = .ok (.getfield 52, 3) := by decide +kernel
theorem d_M_isConflict_17 : decode b_M_isConflict 17 = .ok (.iload_n 1, 1) := by decide +kernel
theorem d_M_isConflict_18 : decode b_M_isConflict 18 = .ok (.iaload, 1) := by decide +kernel
theorem d_M_isConflict_19 : decode b_M_isConflict 19 = .ok (.if_icmp .ge 7, 3) := by decide +kernel
theorem d_M_isConflict_22 : decode b_M_isConflict 22 = .ok (.iconst 1, 1) := by decide +kernel
theorem d_M_isConflict_23 : decode b_M_isConflict 23 = .ok (.goto 4, 3) := by decide +kernel
theorem d_M_isConflict_26 : decode b_M_isConflict 26 = .ok (.iconst 0, 1) := by decide +kernel
theorem d_M_isConflict_27 : decode b_M_isConflict 27 = .ok (.ireturn, 1) := by decide +kernel
theorem d_M_settle_0 : decode b_M_settle 0 = .ok (.aload_n 0, 1) := by decide +kernel
theorem d_M_settle_1 : decode b_M_settle 1 = .ok (.aload_n 0, 1) := by decide +kernel
theorem d_M_settle_2 : decode b_M_settle 2 = .ok (.iload_n 1, 1) := by decide +kernel
theorem d_M_settle_3 : decode b_M_settle 3 = .ok (.iload_n 2, 1) := by decide +kernel
theorem d_M_settle_4 : decode b_M_settle 4 = .ok (.invokevirtual 168, 3) := by decide +kernel
theorem d_M_settle_7 : decode b_M_settle 7 = .ok (.ifCond .eq 10, 3) := by decide +kernel
theorem d_M_settle_10 : decode b_M_settle 10 = .ok (.iload_n 3, 1) := by decide +kernel
theorem d_M_settle_11 : decode b_M_settle 11 = .ok (.invokestatic 116, 3) := by decide +kernel
theorem d_M_settle_14 : decode b_M_settle 14 = .ok (.ifCond .ne 7, 3) := by decide +kernel
theorem d_M_settle_17 : decode b_M_settle 17 = .ok (.iconst 1, 1) := by decide +kernel
theorem d_M_settle_18 : decode b_M_settle 18 = .ok (.goto 4, 3) := by decide +kernel
theorem d_M_settle_21 : decode b_M_settle 21 = .ok (.iconst 0, 1) := by decide +kernel
theorem d_M_settle_22 : decode b_M_settle 22 = .ok (.invokevirtual 119, 3) := by decide +kernel
theorem d_M_settle_25 : decode b_M_settle 25 = .ok (.ifCond .eq 5, 3) := by decide +kernel
theorem d_M_settle_28 : decode b_M_settle 28 = .ok (.iconst 0, 1) := by decide +kernel
theorem d_M_settle_29 : decode b_M_settle 29 = .ok (.ireturn, 1) := by decide +kernel
theorem d_M_settle_30 : decode b_M_settle 30 = .ok (.aload_n 0, 1) := by decide +kernel
theorem d_M_settle_31 : decode b_M_settle 31 = .ok (.getfield 55, 3) := by decide +kernel
theorem d_M_settle_34 : decode b_M_settle 34 = .ok (.sipush 4096, 3) := by decide +kernel
theorem d_M_settle_37 : decode b_M_settle 37 = .ok (.iload_n 1, 1) := by decide +kernel
theorem d_M_settle_38 : decode b_M_settle 38 = .ok (.imul, 1) := by decide +kernel
theorem d_M_settle_39 : decode b_M_settle 39 = .ok (.iload_n 2, 1) := by decide +kernel
theorem d_M_settle_40 : decode b_M_settle 40 = .ok (.iadd, 1) := by decide +kernel
theorem d_M_settle_41 : decode b_M_settle 41 = .ok (.iconst 1, 1) := by decide +kernel
theorem d_M_settle_42 : decode b_M_settle 42 = .ok (.bastore, 1) := by decide +kernel
theorem d_M_settle_43 : decode b_M_settle 43 = .ok (.aload_n 0, 1) := by decide +kernel
theorem d_M_settle_44 : decode b_M_settle 44 = .ok (.iload_n 1, 1) := by decide +kernel
theorem d_M_settle_45 : decode b_M_settle 45 = .ok (.aload_n 0, 1) := by decide +kernel
theorem d_M_settle_46 : decode b_M_settle 46 = .ok (.getfield 40, 3) := by decide +kernel
theorem d_M_settle_49 : decode b_M_settle 49 = .ok (.sipush 4096, 3) := by decide +kernel
theorem d_M_settle_52 : decode b_M_settle 52 = .ok (.iload_n 1, 1) := by decide +kernel
theorem d_M_settle_53 : decode b_M_settle 53 = .ok (.imul, 1) := by decide +kernel
theorem d_M_settle_54 : decode b_M_settle 54 = .ok (.iload_n 2, 1) := by decide +kernel
theorem d_M_settle_55 : decode b_M_settle 55 = .ok (.iadd, 1) := by decide +kernel
theorem d_M_settle_56 : decode b_M_settle 56 = .ok (.iaload, 1) := by decide +kernel
theorem d_M_settle_57 : decode b_M_settle 57 = .ok (.iload_n 3, 1) := by decide +kernel
theorem d_M_settle_58 : decode b_M_settle 58 = .ok (.invokevirtual 127, 3) := by decide +kernel
theorem d_M_settle_61 : decode b_M_settle 61 = .ok (.aload_n 0, 1) := by decide +kernel
theorem d_M_settle_62 : decode b_M_settle 62 = .ok (.iload_n 1, 1) := by decide +kernel
theorem d_M_settle_63 : decode b_M_settle 63 = .ok (.invokevirtual 138, 3) := by decide +kernel
theorem d_M_settle_66 : decode b_M_settle 66 = .ok (.ireturn, 1) := by decide +kernel
theorem d_M_value_0 : decode b_M_value 0 = .ok (.aload_n 0, 1) := by decide +kernel
theorem d_M_value_1 : decode b_M_value 1 = .ok (.iconst 0, 1) := by decide +kernel
theorem d_M_value_2 : decode b_M_value 2 = .ok (.putfield 90, 3) := by decide +kernel
theorem d_M_value_5 : decode b_M_value 5 = .ok (.aload_n 0, 1) := by decide +kernel
theorem d_M_value_6 : decode b_M_value 6 = .ok (.iload_n 1, 1) := by decide +kernel
theorem d_M_value_7 : decode b_M_value 7 = .ok (.iload_n 2, 1) := by decide +kernel
theorem d_M_value_8 : decode b_M_value 8 = .ok (.iload_n 3, 1) := by decide +kernel
theorem d_M_value_9 : decode b_M_value 9 = .ok (.iload 4, 2) := by decide +kernel
theorem d_M_value_11 : decode b_M_value 11 = .ok (.invokevirtual 175, 3) := by decide +kernel
theorem d_M_value_14 : decode b_M_value 14 = .ok (.ifCond .eq 24, 3) := by decide +kernel
theorem d_M_value_17 : decode b_M_value 17 = .ok (.aload_n 0, 1) := by decide +kernel
theorem d_M_value_18 : decode b_M_value 18 = .ok (.getfield 8, 3) := by decide +kernel
theorem d_M_value_21 : decode b_M_value 21 = .ok (.sipush 4096, 3) := by decide +kernel
theorem d_M_value_24 : decode b_M_value 24 = .ok (.iload_n 1, 1) := by decide +kernel
theorem d_M_value_25 : decode b_M_value 25 = .ok (.imul, 1) := by decide +kernel
theorem d_M_value_26 : decode b_M_value 26 = .ok (.iload_n 2, 1) := by decide +kernel
theorem d_M_value_27 : decode b_M_value 27 = .ok (.iload_n 3, 1) := by decide +kernel
theorem d_M_value_28 : decode b_M_value 28 = .ok (.iload 4, 2) := by decide +kernel
theorem d_M_value_30 : decode b_M_value 30 = .ok (.invokestatic 123, 3) := by decide +kernel
theorem d_M_value_33 : decode b_M_value 33 = .ok (.iadd, 1) := by decide +kernel
theorem d_M_value_34 : decode b_M_value 34 = .ok (.iaload, 1) := by decide +kernel
theorem d_M_value_35 : decode b_M_value 35 = .ok (.goto 5, 3) := by decide +kernel
theorem d_M_value_38 : decode b_M_value 38 = .ok (.ldc 89, 2) := by decide +kernel
theorem d_M_value_40 : decode b_M_value 40 = .ok (.ireturn, 1) := by decide +kernel
theorem d_M_isCell_0 : decode b_M_isCell 0 = .ok (.aload_n 0, 1) := by decide +kernel
theorem d_M_isCell_1 : decode b_M_isCell 1 = .ok (.iload_n 1, 1) := by decide +kernel
theorem d_M_isCell_2 : decode b_M_isCell 2 = .ok (.invokevirtual 172, 3) := by decide +kernel
theorem d_M_isCell_5 : decode b_M_isCell 5 = .ok (.ifCond .eq 36, 3) := by decide +kernel
theorem d_M_isCell_8 : decode b_M_isCell 8 = .ok (.iload_n 2, 1) := by decide +kernel
theorem d_M_isCell_9 : decode b_M_isCell 9 = .ok (.invokestatic 102, 3) := by decide +kernel
theorem d_M_isCell_12 : decode b_M_isCell 12 = .ok (.ifCond .eq 29, 3) := by decide +kernel
theorem d_M_isCell_15 : decode b_M_isCell 15 = .ok (.iload_n 3, 1) := by decide +kernel
theorem d_M_isCell_16 : decode b_M_isCell 16 = .ok (.ifCond .lt 25, 3) := by decide +kernel
theorem d_M_isCell_19 : decode b_M_isCell 19 = .ok (.iload_n 3, 1) := by decide +kernel
theorem d_M_isCell_20 : decode b_M_isCell 20 = .ok (.bipush 32, 2) := by decide +kernel
theorem d_M_isCell_22 : decode b_M_isCell 22 = .ok (.if_icmp .ge 19, 3) := by decide +kernel
theorem d_M_isCell_25 : decode b_M_isCell 25 = .ok (.iload 4, 2) := by decide +kernel
theorem d_M_isCell_27 : decode b_M_isCell 27 = .ok (.ifCond .lt 14, 3) := by decide +kernel
theorem d_M_isCell_30 : decode b_M_isCell 30 = .ok (.iload 4, 2) := by decide +kernel
theorem d_M_isCell_32 : decode b_M_isCell 32 = .ok (.bipush 32, 2) := by decide +kernel
theorem d_M_isCell_34 : decode b_M_isCell 34 = .ok (.if_icmp .ge 7, 3) := by decide +kernel
theorem d_M_isCell_37 : decode b_M_isCell 37 = .ok (.iconst 1, 1) := by decide +kernel
theorem d_M_isCell_38 : decode b_M_isCell 38 = .ok (.goto 4, 3) := by decide +kernel
theorem d_M_isCell_41 : decode b_M_isCell 41 = .ok (.iconst 0, 1) := by decide +kernel
theorem d_M_isCell_42 : decode b_M_isCell 42 = .ok (.ireturn, 1) := by decide +kernel
theorem d_M_isPlace_0 : decode b_M_isPlace 0 = .ok (.iload_n 1, 1) := by decide +kernel
theorem d_M_isPlace_1 : decode b_M_isPlace 1 = .ok (.bipush 24, 2) := by decide +kernel
theorem d_M_isPlace_3 : decode b_M_isPlace 3 = .ok (.if_icmp .ge 11, 3) := by decide +kernel
theorem d_M_isPlace_6 : decode b_M_isPlace 6 = .ok (.aload_n 0, 1) := by decide +kernel
theorem d_M_isPlace_7 : decode b_M_isPlace 7 = .ok (.iload_n 1, 1) := by decide +kernel
theorem d_M_isPlace_8 : decode b_M_isPlace 8 = .ok (.invokevirtual 93, 3) := by decide +kernel
theorem d_M_isPlace_11 : decode b_M_isPlace 11 = .ok (.goto 11, 3) := by decide +kernel
theorem d_M_isPlace_14 : decode b_M_isPlace 14 = .ok (.aload_n 0, 1) := by decide +kernel
theorem d_M_isPlace_15 : decode b_M_isPlace 15 = .ok (.iload_n 1, 1) := by decide +kernel
theorem d_M_isPlace_16 : decode b_M_isPlace 16 = .ok (.bipush 24, 2) := by decide +kernel
theorem d_M_isPlace_18 : decode b_M_isPlace 18 = .ok (.isub, 1) := by decide +kernel
theorem d_M_isPlace_19 : decode b_M_isPlace 19 = .ok (.invokevirtual 97, 3) := by decide +kernel
theorem d_M_isPlace_22 : decode b_M_isPlace 22 = .ok (.ireturn, 1) := by decide +kernel
theorem d_M_origin_0 : decode b_M_origin 0 = .ok (.aload_n 0, 1) := by decide +kernel
theorem d_M_origin_1 : decode b_M_origin 1 = .ok (.iconst 0, 1) := by decide +kernel
theorem d_M_origin_2 : decode b_M_origin 2 = .ok (.putfield 90, 3) := by decide +kernel
theorem d_M_origin_5 : decode b_M_origin 5 = .ok (.aload_n 0, 1) := by decide +kernel
theorem d_M_origin_6 : decode b_M_origin 6 = .ok (.iload_n 1, 1) := by decide +kernel
theorem d_M_origin_7 : decode b_M_origin 7 = .ok (.iload_n 2, 1) := by decide +kernel
theorem d_M_origin_8 : decode b_M_origin 8 = .ok (.iload_n 3, 1) := by decide +kernel
theorem d_M_origin_9 : decode b_M_origin 9 = .ok (.iload 4, 2) := by decide +kernel
theorem d_M_origin_11 : decode b_M_origin 11 = .ok (.invokevirtual 175, 3) := by decide +kernel
theorem d_M_origin_14 : decode b_M_origin 14 = .ok (.ifCond .ne 6, 3) := by decide +kernel
theorem d_M_origin_17 : decode b_M_origin 17 = .ok (.ldc 89, 2) := by decide +kernel
theorem d_M_origin_19 : decode b_M_origin 19 = .ok (.ireturn, 1) := by decide +kernel
theorem d_M_origin_20 : decode b_M_origin 20 = .ok (.aload_n 0, 1) := by decide +kernel
theorem d_M_origin_21 : decode b_M_origin 21 = .ok (.getfield 14, 3) := by decide +kernel
theorem d_M_origin_24 : decode b_M_origin 24 = .ok (.sipush 4096, 3) := by decide +kernel
theorem d_M_origin_27 : decode b_M_origin 27 = .ok (.iload_n 1, 1) := by decide +kernel
theorem d_M_origin_28 : decode b_M_origin 28 = .ok (.imul, 1) := by decide +kernel
theorem d_M_origin_29 : decode b_M_origin 29 = .ok (.iload_n 2, 1) := by decide +kernel
theorem d_M_origin_30 : decode b_M_origin 30 = .ok (.iload_n 3, 1) := by decide +kernel
theorem d_M_origin_31 : decode b_M_origin 31 = .ok (.iload 4, 2) := by decide +kernel
theorem d_M_origin_33 : decode b_M_origin 33 = .ok (.invokestatic 123, 3) := by decide +kernel
theorem d_M_origin_36 : decode b_M_origin 36 = .ok (.iadd, 1) := by decide +kernel
theorem d_M_origin_37 : decode b_M_origin 37 = .ok (.iaload, 1) := by decide +kernel
theorem d_M_origin_38 : decode b_M_origin 38 = .ok (.istore 6, 2) := by decide +kernel
theorem d_M_origin_40 : decode b_M_origin 40 = .ok (.iload 6, 2) := by decide +kernel
theorem d_M_origin_42 : decode b_M_origin 42 = .ok (.ifCond .ge 6, 3) := by decide +kernel
theorem d_M_origin_45 : decode b_M_origin 45 = .ok (.ldc 89, 2) := by decide +kernel
theorem d_M_origin_47 : decode b_M_origin 47 = .ok (.ireturn, 1) := by decide +kernel
theorem d_M_origin_48 : decode b_M_origin 48 = .ok (.iload 5, 2) := by decide +kernel
theorem d_M_origin_50 : decode b_M_origin 50 = .ok (.ifCond .ne 12, 3) := by decide +kernel
theorem d_M_origin_53 : decode b_M_origin 53 = .ok (.iload 6, 2) := by decide +kernel
theorem d_M_origin_55 : decode b_M_origin 55 = .ok (.sipush 4096, 3) := by decide +kernel
theorem d_M_origin_58 : decode b_M_origin 58 = .ok (.idiv, 1) := by decide +kernel
theorem d_M_origin_59 : decode b_M_origin 59 = .ok (.goto 55, 3) := by decide +kernel
theorem d_M_origin_62 : decode b_M_origin 62 = .ok (.iload 5, 2) := by decide +kernel
theorem d_M_origin_64 : decode b_M_origin 64 = .ok (.iconst 1, 1) := by decide +kernel
theorem d_M_origin_65 : decode b_M_origin 65 = .ok (.if_icmp .ne 16, 3) := by decide +kernel
theorem d_M_origin_68 : decode b_M_origin 68 = .ok (.iload 6, 2) := by decide +kernel
theorem d_M_origin_70 : decode b_M_origin 70 = .ok (.sipush 4096, 3) := by decide +kernel
theorem d_M_origin_73 : decode b_M_origin 73 = .ok (.irem, 1) := by decide +kernel
theorem d_M_origin_74 : decode b_M_origin 74 = .ok (.sipush 1024, 3) := by decide +kernel
theorem d_M_origin_77 : decode b_M_origin 77 = .ok (.idiv, 1) := by decide +kernel
theorem d_M_origin_78 : decode b_M_origin 78 = .ok (.goto 36, 3) := by decide +kernel
theorem d_M_origin_81 : decode b_M_origin 81 = .ok (.iload 5, 2) := by decide +kernel
theorem d_M_origin_83 : decode b_M_origin 83 = .ok (.iconst 2, 1) := by decide +kernel
theorem d_M_origin_84 : decode b_M_origin 84 = .ok (.if_icmp .ne 11, 3) := by decide +kernel
theorem d_M_origin_87 : decode b_M_origin 87 = .ok (.iload 6, 2) := by decide +kernel
theorem d_M_origin_89 : decode b_M_origin 89 = .ok (.bipush 32, 2) := by decide +kernel
theorem d_M_origin_91 : decode b_M_origin 91 = .ok (.irem, 1) := by decide +kernel
theorem d_M_origin_92 : decode b_M_origin 92 = .ok (.goto 22, 3) := by decide +kernel
theorem d_M_origin_95 : decode b_M_origin 95 = .ok (.iload 5, 2) := by decide +kernel
theorem d_M_origin_97 : decode b_M_origin 97 = .ok (.iconst 3, 1) := by decide +kernel
theorem d_M_origin_98 : decode b_M_origin 98 = .ok (.if_icmp .ne 14, 3) := by decide +kernel
theorem d_M_origin_101 : decode b_M_origin 101 = .ok (.iload 6, 2) := by decide +kernel
theorem d_M_origin_103 : decode b_M_origin 103 = .ok (.bipush 32, 2) := by decide +kernel
theorem d_M_origin_105 : decode b_M_origin 105 = .ok (.idiv, 1) := by decide +kernel
theorem d_M_origin_106 : decode b_M_origin 106 = .ok (.bipush 32, 2) := by decide +kernel
theorem d_M_origin_108 : decode b_M_origin 108 = .ok (.irem, 1) := by decide +kernel
theorem d_M_origin_109 : decode b_M_origin 109 = .ok (.goto 5, 3) := by decide +kernel
theorem d_M_origin_112 : decode b_M_origin 112 = .ok (.ldc 89, 2) := by decide +kernel
theorem d_M_origin_114 : decode b_M_origin 114 = .ok (.ireturn, 1) := by decide +kernel
theorem d_M_total_0 : decode b_M_total 0 = .ok (.aload_n 0, 1) := by decide +kernel
theorem d_M_total_1 : decode b_M_total 1 = .ok (.aload_n 0, 1) := by decide +kernel
theorem d_M_total_2 : decode b_M_total 2 = .ok (.iload_n 1, 1) := by decide +kernel
theorem d_M_total_3 : decode b_M_total 3 = .ok (.invokevirtual 172, 3) := by decide +kernel
theorem d_M_total_6 : decode b_M_total 6 = .ok (.ifCond .eq 19, 3) := by decide +kernel
theorem d_M_total_9 : decode b_M_total 9 = .ok (.iload_n 2, 1) := by decide +kernel
theorem d_M_total_10 : decode b_M_total 10 = .ok (.invokestatic 102, 3) := by decide +kernel
theorem d_M_total_13 : decode b_M_total 13 = .ok (.ifCond .eq 12, 3) := by decide +kernel
theorem d_M_total_16 : decode b_M_total 16 = .ok (.iload_n 3, 1) := by decide +kernel
theorem d_M_total_17 : decode b_M_total 17 = .ok (.ifCond .lt 8, 3) := by decide +kernel
theorem d_M_total_20 : decode b_M_total 20 = .ok (.iload_n 3, 1) := by decide +kernel
theorem d_M_total_21 : decode b_M_total 21 = .ok (.iconst 3, 1) := by decide +kernel
theorem d_M_total_22 : decode b_M_total 22 = .ok (.if_icmp .le 7, 3) := by decide +kernel
theorem d_M_total_25 : decode b_M_total 25 = .ok (.iconst 1, 1) := by decide +kernel
theorem d_M_total_26 : decode b_M_total 26 = .ok (.goto 4, 3) := by decide +kernel
theorem d_M_total_29 : decode b_M_total 29 = .ok (.iconst 0, 1) := by decide +kernel
theorem d_M_total_30 : decode b_M_total 30 = .ok (.invokevirtual 119, 3) := by decide +kernel
theorem d_M_total_33 : decode b_M_total 33 = .ok (.ifCond .eq 5, 3) := by decide +kernel
theorem d_M_total_36 : decode b_M_total 36 = .ok (.iconst 0, 1) := by decide +kernel
theorem d_M_total_37 : decode b_M_total 37 = .ok (.ireturn, 1) := by decide +kernel
theorem d_M_total_38 : decode b_M_total 38 = .ok (.iconst 0, 1) := by decide +kernel
theorem d_M_total_39 : decode b_M_total 39 = .ok (.istore 4, 2) := by decide +kernel
theorem d_M_total_41 : decode b_M_total 41 = .ok (.iconst 0, 1) := by decide +kernel
theorem d_M_total_42 : decode b_M_total 42 = .ok (.istore 5, 2) := by decide +kernel
theorem d_M_total_44 : decode b_M_total 44 = .ok (.ldc 89, 2) := by decide +kernel
theorem d_M_total_46 : decode b_M_total 46 = .ok (.istore 6, 2) := by decide +kernel
theorem d_M_total_48 : decode b_M_total 48 = .ok (.ldc 89, 2) := by decide +kernel
theorem d_M_total_50 : decode b_M_total 50 = .ok (.istore 7, 2) := by decide +kernel
theorem d_M_total_52 : decode b_M_total 52 = .ok (.aload_n 0, 1) := by decide +kernel
theorem d_M_total_53 : decode b_M_total 53 = .ok (.getfield 112, 3) := by decide +kernel
theorem d_M_total_56 : decode b_M_total 56 = .ok (.istore 8, 2) := by decide +kernel
theorem d_M_total_58 : decode b_M_total 58 = .ok (.iload 8, 2) := by decide +kernel
theorem d_M_total_60 : decode b_M_total 60 = .ok (.aload_n 0, 1) := by decide +kernel
theorem d_M_total_61 : decode b_M_total 61 = .ok (.getfield 112, 3) := by decide +kernel
theorem d_M_total_64 : decode b_M_total 64 = .ok (.aload_n 0, 1) := by decide +kernel
theorem d_M_total_65 : decode b_M_total 65 = .ok (.getfield 61, 3) := by decide +kernel
theorem d_M_total_68 : decode b_M_total 68 = .ok (.iadd, 1) := by decide +kernel
theorem d_M_total_69 : decode b_M_total 69 = .ok (.if_icmp .ge 113, 3) := by decide +kernel
theorem d_M_total_72 : decode b_M_total 72 = .ok (.aload_n 0, 1) := by decide +kernel
theorem d_M_total_73 : decode b_M_total 73 = .ok (.getfield 109, 3) := by decide +kernel
theorem d_M_total_76 : decode b_M_total 76 = .ok (.istore 9, 2) := by decide +kernel
theorem d_M_total_78 : decode b_M_total 78 = .ok (.iload 9, 2) := by decide +kernel
theorem d_M_total_80 : decode b_M_total 80 = .ok (.aload_n 0, 1) := by decide +kernel
theorem d_M_total_81 : decode b_M_total 81 = .ok (.getfield 109, 3) := by decide +kernel
theorem d_M_total_84 : decode b_M_total 84 = .ok (.aload_n 0, 1) := by decide +kernel
theorem d_M_total_85 : decode b_M_total 85 = .ok (.getfield 58, 3) := by decide +kernel
theorem d_M_total_88 : decode b_M_total 88 = .ok (.iadd, 1) := by decide +kernel
theorem d_M_total_89 : decode b_M_total 89 = .ok (.if_icmp .ge 87, 3) := by decide +kernel
theorem d_M_total_92 : decode b_M_total 92 = .ok (.aload_n 0, 1) := by decide +kernel
theorem d_M_total_93 : decode b_M_total 93 = .ok (.getfield 8, 3) := by decide +kernel
theorem d_M_total_96 : decode b_M_total 96 = .ok (.sipush 4096, 3) := by decide +kernel
theorem d_M_total_99 : decode b_M_total 99 = .ok (.iload_n 1, 1) := by decide +kernel
theorem d_M_total_100 : decode b_M_total 100 = .ok (.imul, 1) := by decide +kernel
theorem d_M_total_101 : decode b_M_total 101 = .ok (.iload_n 2, 1) := by decide +kernel
theorem d_M_total_102 : decode b_M_total 102 = .ok (.iload 9, 2) := by decide +kernel
theorem d_M_total_104 : decode b_M_total 104 = .ok (.iload 8, 2) := by decide +kernel
theorem d_M_total_106 : decode b_M_total 106 = .ok (.invokestatic 123, 3) := by decide +kernel
theorem d_M_total_109 : decode b_M_total 109 = .ok (.iadd, 1) := by decide +kernel
theorem d_M_total_110 : decode b_M_total 110 = .ok (.iaload, 1) := by decide +kernel
theorem d_M_total_111 : decode b_M_total 111 = .ok (.istore 10, 2) := by decide +kernel
theorem d_M_total_113 : decode b_M_total 113 = .ok (.iload 10, 2) := by decide +kernel
theorem d_M_total_115 : decode b_M_total 115 = .ok (.ldc 89, 2) := by decide +kernel
theorem d_M_total_117 : decode b_M_total 117 = .ok (.if_icmp .ne 6, 3) := by decide +kernel
theorem d_M_total_120 : decode b_M_total 120 = .ok (.goto 50, 3) := by decide +kernel
theorem d_M_total_123 : decode b_M_total 123 = .ok (.iload 4, 2) := by decide +kernel
theorem d_M_total_125 : decode b_M_total 125 = .ok (.iload 10, 2) := by decide +kernel
theorem d_M_total_127 : decode b_M_total 127 = .ok (.iadd, 1) := by decide +kernel
theorem d_M_total_128 : decode b_M_total 128 = .ok (.istore 4, 2) := by decide +kernel
theorem d_M_total_130 : decode b_M_total 130 = .ok (.iload 5, 2) := by decide +kernel
theorem d_M_total_132 : decode b_M_total 132 = .ok (.ifCond .eq 10, 3) := by decide +kernel
theorem d_M_total_135 : decode b_M_total 135 = .ok (.iload 10, 2) := by decide +kernel
theorem d_M_total_137 : decode b_M_total 137 = .ok (.iload 6, 2) := by decide +kernel
theorem d_M_total_139 : decode b_M_total 139 = .ok (.if_icmp .ge 8, 3) := by decide +kernel
theorem d_M_total_142 : decode b_M_total 142 = .ok (.iload 10, 2) := by decide +kernel
theorem d_M_total_144 : decode b_M_total 144 = .ok (.goto 5, 3) := by decide +kernel
theorem d_M_total_147 : decode b_M_total 147 = .ok (.iload 6, 2) := by decide +kernel
theorem d_M_total_149 : decode b_M_total 149 = .ok (.istore 6, 2) := by decide +kernel
theorem d_M_total_151 : decode b_M_total 151 = .ok (.iload 10, 2) := by decide +kernel
theorem d_M_total_153 : decode b_M_total 153 = .ok (.iload 7, 2) := by decide +kernel
theorem d_M_total_155 : decode b_M_total 155 = .ok (.if_icmp .le 8, 3) := by decide +kernel
theorem d_M_total_158 : decode b_M_total 158 = .ok (.iload 10, 2) := by decide +kernel
theorem d_M_total_160 : decode b_M_total 160 = .ok (.goto 5, 3) := by decide +kernel
theorem d_M_total_163 : decode b_M_total 163 = .ok (.iload 7, 2) := by decide +kernel
theorem d_M_total_165 : decode b_M_total 165 = .ok (.istore 7, 2) := by decide +kernel
theorem d_M_total_167 : decode b_M_total 167 = .ok (.iinc 5 1, 3) := by decide +kernel
theorem d_M_total_170 : decode b_M_total 170 = .ok (.iinc 9 1, 3) := by decide +kernel
theorem d_M_total_173 : decode b_M_total 173 = .ok (.goto (-95), 3) := by decide +kernel
theorem d_M_total_176 : decode b_M_total 176 = .ok (.iinc 8 1, 3) := by decide +kernel
theorem d_M_total_179 : decode b_M_total 179 = .ok (.goto (-121), 3) := by decide +kernel
theorem d_M_total_182 : decode b_M_total 182 = .ok (.iload_n 3, 1) := by decide +kernel
theorem d_M_total_183 : decode b_M_total 183 = .ok (.ifCond .ne 8, 3) := by decide +kernel
theorem d_M_total_186 : decode b_M_total 186 = .ok (.iload 4, 2) := by decide +kernel
theorem d_M_total_188 : decode b_M_total 188 = .ok (.goto 25, 3) := by decide +kernel
theorem d_M_total_191 : decode b_M_total 191 = .ok (.iload_n 3, 1) := by decide +kernel
theorem d_M_total_192 : decode b_M_total 192 = .ok (.iconst 1, 1) := by decide +kernel
theorem d_M_total_193 : decode b_M_total 193 = .ok (.if_icmp .ne 8, 3) := by decide +kernel
theorem d_M_total_196 : decode b_M_total 196 = .ok (.iload 5, 2) := by decide +kernel
theorem d_M_total_198 : decode b_M_total 198 = .ok (.goto 15, 3) := by decide +kernel
theorem d_M_total_201 : decode b_M_total 201 = .ok (.iload_n 3, 1) := by decide +kernel
theorem d_M_total_202 : decode b_M_total 202 = .ok (.iconst 2, 1) := by decide +kernel
theorem d_M_total_203 : decode b_M_total 203 = .ok (.if_icmp .ne 8, 3) := by decide +kernel
theorem d_M_total_206 : decode b_M_total 206 = .ok (.iload 6, 2) := by decide +kernel
theorem d_M_total_208 : decode b_M_total 208 = .ok (.goto 5, 3) := by decide +kernel
theorem d_M_total_211 : decode b_M_total 211 = .ok (.iload 7, 2) := by decide +kernel
theorem d_M_total_213 : decode b_M_total 213 = .ok (.ireturn, 1) := by decide +kernel
theorem d_M_differing_0 : decode b_M_differing 0 = .ok (.aload_n 0, 1) := by decide +kernel
theorem d_M_differing_1 : decode b_M_differing 1 = .ok (.iconst 0, 1) := by decide +kernel
theorem d_M_differing_2 : decode b_M_differing 2 = .ok (.putfield 90, 3) := by decide +kernel
theorem d_M_differing_5 : decode b_M_differing 5 = .ok (.aload_n 0, 1) := by decide +kernel
theorem d_M_differing_6 : decode b_M_differing 6 = .ok (.iload_n 1, 1) := by decide +kernel
theorem d_M_differing_7 : decode b_M_differing 7 = .ok (.invokevirtual 172, 3) := by decide +kernel
theorem d_M_differing_10 : decode b_M_differing 10 = .ok (.ifCond .eq 18, 3) := by decide +kernel
theorem d_M_differing_13 : decode b_M_differing 13 = .ok (.aload_n 0, 1) := by decide +kernel
theorem d_M_differing_14 : decode b_M_differing 14 = .ok (.iload_n 2, 1) := by decide +kernel
theorem d_M_differing_15 : decode b_M_differing 15 = .ok (.invokevirtual 172, 3) := by decide +kernel
theorem d_M_differing_18 : decode b_M_differing 18 = .ok (.ifCond .eq 10, 3) := by decide +kernel
theorem d_M_differing_21 : decode b_M_differing 21 = .ok (.iload_n 3, 1) := by decide +kernel
theorem d_M_differing_22 : decode b_M_differing 22 = .ok (.invokestatic 102, 3) := by decide +kernel
theorem d_M_differing_25 : decode b_M_differing 25 = .ok (.ifCond .ne 5, 3) := by decide +kernel
theorem d_M_differing_28 : decode b_M_differing 28 = .ok (.iconst (-1), 1) := by decide +kernel
theorem d_M_differing_29 : decode b_M_differing 29 = .ok (.ireturn, 1) := by decide +kernel
theorem d_M_differing_30 : decode b_M_differing 30 = .ok (.iconst 0, 1) := by decide +kernel
theorem d_M_differing_31 : decode b_M_differing 31 = .ok (.istore 4, 2) := by decide +kernel
theorem d_M_differing_33 : decode b_M_differing 33 = .ok (.sipush 1024, 3) := by decide +kernel
theorem d_M_differing_36 : decode b_M_differing 36 = .ok (.iload_n 3, 1) := by decide +kernel
theorem d_M_differing_37 : decode b_M_differing 37 = .ok (.imul, 1) := by decide +kernel
theorem d_M_differing_38 : decode b_M_differing 38 = .ok (.istore 5, 2) := by decide +kernel
theorem d_M_differing_40 : decode b_M_differing 40 = .ok (.iload 5, 2) := by decide +kernel
theorem d_M_differing_42 : decode b_M_differing 42 = .ok (.sipush 1024, 3) := by decide +kernel
theorem d_M_differing_45 : decode b_M_differing 45 = .ok (.iload_n 3, 1) := by decide +kernel
theorem d_M_differing_46 : decode b_M_differing 46 = .ok (.imul, 1) := by decide +kernel
theorem d_M_differing_47 : decode b_M_differing 47 = .ok (.sipush 1024, 3) := by decide +kernel
theorem d_M_differing_50 : decode b_M_differing 50 = .ok (.iadd, 1) := by decide +kernel
theorem d_M_differing_51 : decode b_M_differing 51 = .ok (.if_icmp .ge 48, 3) := by decide +kernel
theorem d_M_differing_54 : decode b_M_differing 54 = .ok (.iload 4, 2) := by decide +kernel
theorem d_M_differing_56 : decode b_M_differing 56 = .ok (.aload_n 0, 1) := by decide +kernel
theorem d_M_differing_57 : decode b_M_differing 57 = .ok (.getfield 8, 3) := by decide +kernel
theorem d_M_differing_60 : decode b_M_differing 60 = .ok (.sipush 4096, 3) := by decide +kernel
theorem d_M_differing_63 : decode b_M_differing 63 = .ok (.iload_n 1, 1) := by decide +kernel
theorem d_M_differing_64 : decode b_M_differing 64 = .ok (.imul, 1) := by decide +kernel
theorem d_M_differing_65 : decode b_M_differing 65 = .ok (.iload 5, 2) := by decide +kernel
theorem d_M_differing_67 : decode b_M_differing 67 = .ok (.iadd, 1) := by decide +kernel
theorem d_M_differing_68 : decode b_M_differing 68 = .ok (.iaload, 1) := by decide +kernel
theorem d_M_differing_69 : decode b_M_differing 69 = .ok (.aload_n 0, 1) := by decide +kernel
theorem d_M_differing_70 : decode b_M_differing 70 = .ok (.getfield 8, 3) := by decide +kernel
theorem d_M_differing_73 : decode b_M_differing 73 = .ok (.sipush 4096, 3) := by decide +kernel
theorem d_M_differing_76 : decode b_M_differing 76 = .ok (.iload_n 2, 1) := by decide +kernel
theorem d_M_differing_77 : decode b_M_differing 77 = .ok (.imul, 1) := by decide +kernel
theorem d_M_differing_78 : decode b_M_differing 78 = .ok (.iload 5, 2) := by decide +kernel
theorem d_M_differing_80 : decode b_M_differing 80 = .ok (.iadd, 1) := by decide +kernel
theorem d_M_differing_81 : decode b_M_differing 81 = .ok (.iaload, 1) := by decide +kernel
theorem d_M_differing_82 : decode b_M_differing 82 = .ok (.if_icmp .eq 7, 3) := by decide +kernel
theorem d_M_differing_85 : decode b_M_differing 85 = .ok (.iconst 1, 1) := by decide +kernel
theorem d_M_differing_86 : decode b_M_differing 86 = .ok (.goto 4, 3) := by decide +kernel
theorem d_M_differing_89 : decode b_M_differing 89 = .ok (.iconst 0, 1) := by decide +kernel
theorem d_M_differing_90 : decode b_M_differing 90 = .ok (.iadd, 1) := by decide +kernel
theorem d_M_differing_91 : decode b_M_differing 91 = .ok (.istore 4, 2) := by decide +kernel
theorem d_M_differing_93 : decode b_M_differing 93 = .ok (.iinc 5 1, 3) := by decide +kernel
theorem d_M_differing_96 : decode b_M_differing 96 = .ok (.goto (-56), 3) := by decide +kernel
theorem d_M_differing_99 : decode b_M_differing 99 = .ok (.iload 4, 2) := by decide +kernel
theorem d_M_differing_101 : decode b_M_differing 101 = .ok (.ireturn, 1) := by decide +kernel
theorem d_M_differs_0 : decode b_M_differs 0 = .ok (.aload_n 0, 1) := by decide +kernel
theorem d_M_differs_1 : decode b_M_differs 1 = .ok (.iconst 0, 1) := by decide +kernel
theorem d_M_differs_2 : decode b_M_differs 2 = .ok (.putfield 90, 3) := by decide +kernel
theorem d_M_differs_5 : decode b_M_differs 5 = .ok (.aload_n 0, 1) := by decide +kernel
theorem d_M_differs_6 : decode b_M_differs 6 = .ok (.iload_n 1, 1) := by decide +kernel
theorem d_M_differs_7 : decode b_M_differs 7 = .ok (.invokevirtual 172, 3) := by decide +kernel
theorem d_M_differs_10 : decode b_M_differs 10 = .ok (.ifCond .eq 23, 3) := by decide +kernel
theorem d_M_differs_13 : decode b_M_differs 13 = .ok (.aload_n 0, 1) := by decide +kernel
theorem d_M_differs_14 : decode b_M_differs 14 = .ok (.iload_n 2, 1) := by decide +kernel
theorem d_M_differs_15 : decode b_M_differs 15 = .ok (.invokevirtual 172, 3) := by decide +kernel
theorem d_M_differs_18 : decode b_M_differs 18 = .ok (.ifCond .eq 15, 3) := by decide +kernel
theorem d_M_differs_21 : decode b_M_differs 21 = .ok (.iload_n 3, 1) := by decide +kernel
theorem d_M_differs_22 : decode b_M_differs 22 = .ok (.invokestatic 102, 3) := by decide +kernel
theorem d_M_differs_25 : decode b_M_differs 25 = .ok (.ifCond .eq 8, 3) := by decide +kernel
theorem d_M_differs_28 : decode b_M_differs 28 = .ok (.iload 4, 2) := by decide +kernel
theorem d_M_differs_30 : decode b_M_differs 30 = .ok (.ifCond .ge 5, 3) := by decide +kernel
theorem d_M_differs_33 : decode b_M_differs 33 = .ok (.iconst (-1), 1) := by decide +kernel
theorem d_M_differs_34 : decode b_M_differs 34 = .ok (.ireturn, 1) := by decide +kernel
theorem d_M_differs_35 : decode b_M_differs 35 = .ok (.iconst (-1), 1) := by decide +kernel
theorem d_M_differs_36 : decode b_M_differs 36 = .ok (.istore 5, 2) := by decide +kernel
theorem d_M_differs_38 : decode b_M_differs 38 = .ok (.iconst 0, 1) := by decide +kernel
theorem d_M_differs_39 : decode b_M_differs 39 = .ok (.istore 6, 2) := by decide +kernel
theorem d_M_differs_41 : decode b_M_differs 41 = .ok (.iload 6, 2) := by decide +kernel
theorem d_M_differs_43 : decode b_M_differs 43 = .ok (.sipush 1024, 3) := by decide +kernel
theorem d_M_differs_46 : decode b_M_differs 46 = .ok (.if_icmp .ge 63, 3) := by decide +kernel
theorem d_M_differs_49 : decode b_M_differs 49 = .ok (.aload_n 0, 1) := by decide +kernel
theorem d_M_differs_50 : decode b_M_differs 50 = .ok (.getfield 8, 3) := by decide +kernel
theorem d_M_differs_53 : decode b_M_differs 53 = .ok (.sipush 4096, 3) := by decide +kernel
theorem d_M_differs_56 : decode b_M_differs 56 = .ok (.iload_n 1, 1) := by decide +kernel
theorem d_M_differs_57 : decode b_M_differs 57 = .ok (.imul, 1) := by decide +kernel
theorem d_M_differs_58 : decode b_M_differs 58 = .ok (.sipush 1024, 3) := by decide +kernel
theorem d_M_differs_61 : decode b_M_differs 61 = .ok (.iload_n 3, 1) := by decide +kernel
theorem d_M_differs_62 : decode b_M_differs 62 = .ok (.imul, 1) := by decide +kernel
theorem d_M_differs_63 : decode b_M_differs 63 = .ok (.iadd, 1) := by decide +kernel
theorem d_M_differs_64 : decode b_M_differs 64 = .ok (.iload 6, 2) := by decide +kernel
theorem d_M_differs_66 : decode b_M_differs 66 = .ok (.iadd, 1) := by decide +kernel
theorem d_M_differs_67 : decode b_M_differs 67 = .ok (.iaload, 1) := by decide +kernel
theorem d_M_differs_68 : decode b_M_differs 68 = .ok (.aload_n 0, 1) := by decide +kernel
theorem d_M_differs_69 : decode b_M_differs 69 = .ok (.getfield 8, 3) := by decide +kernel
theorem d_M_differs_72 : decode b_M_differs 72 = .ok (.sipush 4096, 3) := by decide +kernel
theorem d_M_differs_75 : decode b_M_differs 75 = .ok (.iload_n 2, 1) := by decide +kernel
theorem d_M_differs_76 : decode b_M_differs 76 = .ok (.imul, 1) := by decide +kernel
theorem d_M_differs_77 : decode b_M_differs 77 = .ok (.sipush 1024, 3) := by decide +kernel
theorem d_M_differs_80 : decode b_M_differs 80 = .ok (.iload_n 3, 1) := by decide +kernel
theorem d_M_differs_81 : decode b_M_differs 81 = .ok (.imul, 1) := by decide +kernel
theorem d_M_differs_82 : decode b_M_differs 82 = .ok (.iadd, 1) := by decide +kernel
theorem d_M_differs_83 : decode b_M_differs 83 = .ok (.iload 6, 2) := by decide +kernel
theorem d_M_differs_85 : decode b_M_differs 85 = .ok (.iadd, 1) := by decide +kernel
theorem d_M_differs_86 : decode b_M_differs 86 = .ok (.iaload, 1) := by decide +kernel
theorem d_M_differs_87 : decode b_M_differs 87 = .ok (.if_icmp .eq 6, 3) := by decide +kernel
theorem d_M_differs_90 : decode b_M_differs 90 = .ok (.iinc 5 1, 3) := by decide +kernel
theorem d_M_differs_93 : decode b_M_differs 93 = .ok (.iload 5, 2) := by decide +kernel
theorem d_M_differs_95 : decode b_M_differs 95 = .ok (.iload 4, 2) := by decide +kernel
theorem d_M_differs_97 : decode b_M_differs 97 = .ok (.if_icmp .ne 6, 3) := by decide +kernel
theorem d_M_differs_100 : decode b_M_differs 100 = .ok (.iload 6, 2) := by decide +kernel
theorem d_M_differs_102 : decode b_M_differs 102 = .ok (.ireturn, 1) := by decide +kernel
theorem d_M_differs_103 : decode b_M_differs 103 = .ok (.iinc 6 1, 3) := by decide +kernel
theorem d_M_differs_106 : decode b_M_differs 106 = .ok (.goto (-65), 3) := by decide +kernel
theorem d_M_differs_109 : decode b_M_differs 109 = .ok (.iconst (-1), 1) := by decide +kernel
theorem d_M_differs_110 : decode b_M_differs 110 = .ok (.ireturn, 1) := by decide +kernel
theorem d_M_nearest_0 : decode b_M_nearest 0 = .ok (.aload_n 0, 1) := by decide +kernel
theorem d_M_nearest_1 : decode b_M_nearest 1 = .ok (.iconst 0, 1) := by decide +kernel
theorem d_M_nearest_2 : decode b_M_nearest 2 = .ok (.putfield 90, 3) := by decide +kernel
theorem d_M_nearest_5 : decode b_M_nearest 5 = .ok (.aload_n 0, 1) := by decide +kernel
theorem d_M_nearest_6 : decode b_M_nearest 6 = .ok (.iload_n 1, 1) := by decide +kernel
theorem d_M_nearest_7 : decode b_M_nearest 7 = .ok (.invokevirtual 93, 3) := by decide +kernel
theorem d_M_nearest_10 : decode b_M_nearest 10 = .ok (.ifCond .eq 15, 3) := by decide +kernel
theorem d_M_nearest_13 : decode b_M_nearest 13 = .ok (.aload_n 0, 1) := by decide +kernel
theorem d_M_nearest_14 : decode b_M_nearest 14 = .ok (.iload_n 2, 1) := by decide +kernel
theorem d_M_nearest_15 : decode b_M_nearest 15 = .ok (.invokevirtual 93, 3) := by decide +kernel
theorem d_M_nearest_18 : decode b_M_nearest 18 = .ok (.ifCond .eq 7, 3) := by decide +kernel
theorem d_M_nearest_21 : decode b_M_nearest 21 = .ok (.iload_n 3, 1) := by decide +kernel
theorem d_M_nearest_22 : decode b_M_nearest 22 = .ok (.ifCond .ge 5, 3) := by decide +kernel
theorem d_M_nearest_25 : decode b_M_nearest 25 = .ok (.iconst (-1), 1) := by decide +kernel
theorem d_M_nearest_26 : decode b_M_nearest 26 = .ok (.ireturn, 1) := by decide +kernel
theorem d_M_nearest_27 : decode b_M_nearest 27 = .ok (.aload_n 0, 1) := by decide +kernel
theorem d_M_nearest_28 : decode b_M_nearest 28 = .ok (.iconst 1, 1) := by decide +kernel
theorem d_M_nearest_29 : decode b_M_nearest 29 = .ok (.iload_n 1, 1) := by decide +kernel
theorem d_M_nearest_30 : decode b_M_nearest 30 = .ok (.ishl, 1) := by decide +kernel
theorem d_M_nearest_31 : decode b_M_nearest 31 = .ok (.iload_n 2, 1) := by decide +kernel
theorem d_M_nearest_32 : decode b_M_nearest 32 = .ok (.invokevirtual 145, 3) := by decide +kernel
theorem d_M_nearest_35 : decode b_M_nearest 35 = .ok (.istore 4, 2) := by decide +kernel
theorem d_M_nearest_37 : decode b_M_nearest 37 = .ok (.iconst (-1), 1) := by decide +kernel
theorem d_M_nearest_38 : decode b_M_nearest 38 = .ok (.istore 5, 2) := by decide +kernel
theorem d_M_nearest_40 : decode b_M_nearest 40 = .ok (.iconst 0, 1) := by decide +kernel
theorem d_M_nearest_41 : decode b_M_nearest 41 = .ok (.istore 6, 2) := by decide +kernel
theorem d_M_nearest_43 : decode b_M_nearest 43 = .ok (.iload 6, 2) := by decide +kernel
theorem d_M_nearest_45 : decode b_M_nearest 45 = .ok (.aload_n 0, 1) := by decide +kernel
theorem d_M_nearest_46 : decode b_M_nearest 46 = .ok (.getfield 26, 3) := by decide +kernel
theorem d_M_nearest_49 : decode b_M_nearest 49 = .ok (.if_icmp .ge 30, 3) := by decide +kernel
theorem d_M_nearest_52 : decode b_M_nearest 52 = .ok (.iload 5, 2) := by decide +kernel
theorem d_M_nearest_54 : decode b_M_nearest 54 = .ok (.iload 4, 2) := by decide +kernel
theorem d_M_nearest_56 : decode b_M_nearest 56 = .ok (.iload 6, 2) := by decide +kernel
theorem d_M_nearest_58 : decode b_M_nearest 58 = .ok (.ishr, 1) := by decide +kernel
theorem d_M_nearest_59 : decode b_M_nearest 59 = .ok (.iconst 1, 1) := by decide +kernel
theorem d_M_nearest_60 : decode b_M_nearest 60 = .ok (.iand, 1) := by decide +kernel
theorem d_M_nearest_61 : decode b_M_nearest 61 = .ok (.iadd, 1) := by decide +kernel
theorem d_M_nearest_62 : decode b_M_nearest 62 = .ok (.istore 5, 2) := by decide +kernel
theorem d_M_nearest_64 : decode b_M_nearest 64 = .ok (.iload 5, 2) := by decide +kernel
theorem d_M_nearest_66 : decode b_M_nearest 66 = .ok (.iload_n 3, 1) := by decide +kernel
theorem d_M_nearest_67 : decode b_M_nearest 67 = .ok (.if_icmp .ne 6, 3) := by decide +kernel
theorem d_M_nearest_70 : decode b_M_nearest 70 = .ok (.iload 6, 2) := by decide +kernel
theorem d_M_nearest_72 : decode b_M_nearest 72 = .ok (.ireturn, 1) := by decide +kernel
theorem d_M_nearest_73 : decode b_M_nearest 73 = .ok (.iinc 6 1, 3) := by decide +kernel
theorem d_M_nearest_76 : decode b_M_nearest 76 = .ok (.goto (-33), 3) := by decide +kernel
theorem d_M_nearest_79 : decode b_M_nearest 79 = .ok (.iconst (-1), 1) := by decide +kernel
theorem d_M_nearest_80 : decode b_M_nearest 80 = .ok (.ireturn, 1) := by decide +kernel
theorem d_M_about_0 : decode b_M_about 0 = .ok (.aload_n 0, 1) := by decide +kernel
theorem d_M_about_1 : decode b_M_about 1 = .ok (.iconst 0, 1) := by decide +kernel
theorem d_M_about_2 : decode b_M_about 2 = .ok (.putfield 90, 3) := by decide +kernel
theorem d_M_about_5 : decode b_M_about 5 = .ok (.aload_n 0, 1) := by decide +kernel
theorem d_M_about_6 : decode b_M_about 6 = .ok (.iload_n 1, 1) := by decide +kernel
theorem d_M_about_7 : decode b_M_about 7 = .ok (.invokevirtual 172, 3) := by decide +kernel
theorem d_M_about_10 : decode b_M_about 10 = .ok (.ifCond .eq 12, 3) := by decide +kernel
theorem d_M_about_13 : decode b_M_about 13 = .ok (.iload_n 2, 1) := by decide +kernel
theorem d_M_about_14 : decode b_M_about 14 = .ok (.ifCond .lt 8, 3) := by decide +kernel
theorem d_M_about_17 : decode b_M_about 17 = .ok (.iload_n 2, 1) := by decide +kernel
theorem d_M_about_18 : decode b_M_about 18 = .ok (.iconst 2, 1) := by decide +kernel
theorem d_M_about_19 : decode b_M_about 19 = .ok (.if_icmp .le 5, 3) := by decide +kernel
theorem d_M_about_22 : decode b_M_about 22 = .ok (.iconst (-1), 1) := by decide +kernel
theorem d_M_about_23 : decode b_M_about 23 = .ok (.ireturn, 1) := by decide +kernel
theorem d_M_about_24 : decode b_M_about 24 = .ok (.iload_n 1, 1) := by decide +kernel
theorem d_M_about_25 : decode b_M_about 25 = .ok (.bipush 24, 2) := by decide +kernel
theorem d_M_about_27 : decode b_M_about 27 = .ok (.if_icmp .lt 53, 3) := by decide +kernel
theorem d_M_about_30 : decode b_M_about 30 = .ok (.iload_n 2, 1) := by decide +kernel
theorem d_M_about_31 : decode b_M_about 31 = .ok (.ifCond .ne 15, 3) := by decide +kernel
theorem d_M_about_34 : decode b_M_about 34 = .ok (.aload_n 0, 1) := by decide +kernel
theorem d_M_about_35 : decode b_M_about 35 = .ok (.getfield 34, 3) := by decide +kernel
theorem d_M_about_38 : decode b_M_about 38 = .ok (.iload_n 1, 1) := by decide +kernel
theorem d_M_about_39 : decode b_M_about 39 = .ok (.bipush 24, 2) := by decide +kernel
theorem d_M_about_41 : decode b_M_about 41 = .ok (.isub, 1) := by decide +kernel
theorem d_M_about_42 : decode b_M_about 42 = .ok (.iaload, 1) := by decide +kernel
theorem d_M_about_43 : decode b_M_about 43 = .ok (.goto 36, 3) := by decide +kernel
theorem d_M_about_46 : decode b_M_about 46 = .ok (.iload_n 2, 1) := by decide +kernel
theorem d_M_about_47 : decode b_M_about 47 = .ok (.iconst 1, 1) := by decide +kernel
theorem d_M_about_48 : decode b_M_about 48 = .ok (.if_icmp .ne 15, 3) := by decide +kernel
theorem d_M_about_51 : decode b_M_about 51 = .ok (.aload_n 0, 1) := by decide +kernel
theorem d_M_about_52 : decode b_M_about 52 = .ok (.getfield 37, 3) := by decide +kernel
theorem d_M_about_55 : decode b_M_about 55 = .ok (.iload_n 1, 1) := by decide +kernel
theorem d_M_about_56 : decode b_M_about 56 = .ok (.bipush 24, 2) := by decide +kernel
theorem d_M_about_58 : decode b_M_about 58 = .ok (.isub, 1) := by decide +kernel
theorem d_M_about_59 : decode b_M_about 59 = .ok (.iaload, 1) := by decide +kernel
theorem d_M_about_60 : decode b_M_about 60 = .ok (.goto 19, 3) := by decide +kernel
theorem d_M_about_63 : decode b_M_about 63 = .ok (.aload_n 0, 1) := by decide +kernel
theorem d_M_about_64 : decode b_M_about 64 = .ok (.iload_n 1, 1) := by decide +kernel
theorem d_M_about_65 : decode b_M_about 65 = .ok (.bipush 24, 2) := by decide +kernel
theorem d_M_about_67 : decode b_M_about 67 = .ok (.isub, 1) := by decide +kernel
theorem d_M_about_68 : decode b_M_about 68 = .ok (.invokevirtual 135, 3) := by decide +kernel
theorem d_M_about_71 : decode b_M_about 71 = .ok (.ifCond .eq 7, 3) := by decide +kernel
theorem d_M_about_74 : decode b_M_about 74 = .ok (.iconst 1, 1) := by decide +kernel
theorem d_M_about_75 : decode b_M_about 75 = .ok (.goto 4, 3) := by decide +kernel
theorem d_M_about_78 : decode b_M_about 78 = .ok (.iconst 0, 1) := by decide +kernel
theorem d_M_about_79 : decode b_M_about 79 = .ok (.ireturn, 1) := by decide +kernel
theorem d_M_about_80 : decode b_M_about 80 = .ok (.iconst 0, 1) := by decide +kernel
theorem d_M_about_81 : decode b_M_about 81 = .ok (.istore_n 3, 1) := by decide +kernel
theorem d_M_about_82 : decode b_M_about 82 = .ok (.iconst 1, 1) := by decide +kernel
theorem d_M_about_83 : decode b_M_about 83 = .ok (.istore 4, 2) := by decide +kernel
theorem d_M_about_85 : decode b_M_about 85 = .ok (.iload 4, 2) := by decide +kernel
theorem d_M_about_87 : decode b_M_about 87 = .ok (.aload_n 0, 1) := by decide +kernel
theorem d_M_about_88 : decode b_M_about 88 = .ok (.getfield 26, 3) := by decide +kernel
theorem d_M_about_91 : decode b_M_about 91 = .ok (.if_icmp .ge 45, 3) := by decide +kernel
theorem d_M_about_94 : decode b_M_about 94 = .ok (.iload_n 3, 1) := by decide +kernel
theorem d_M_about_95 : decode b_M_about 95 = .ok (.aload_n 0, 1) := by decide +kernel
theorem d_M_about_96 : decode b_M_about 96 = .ok (.getfield 20, 3) := by decide +kernel
theorem d_M_about_99 : decode b_M_about 99 = .ok (.iload 4, 2) := by decide +kernel
theorem d_M_about_101 : decode b_M_about 101 = .ok (.iaload, 1) := by decide +kernel
theorem d_M_about_102 : decode b_M_about 102 = .ok (.iload_n 1, 1) := by decide +kernel
theorem d_M_about_103 : decode b_M_about 103 = .ok (.if_icmp .ne 7, 3) := by decide +kernel
theorem d_M_about_106 : decode b_M_about 106 = .ok (.iconst 1, 1) := by decide +kernel
theorem d_M_about_107 : decode b_M_about 107 = .ok (.goto 4, 3) := by decide +kernel
theorem d_M_about_110 : decode b_M_about 110 = .ok (.iconst 0, 1) := by decide +kernel
theorem d_M_about_111 : decode b_M_about 111 = .ok (.aload_n 0, 1) := by decide +kernel
theorem d_M_about_112 : decode b_M_about 112 = .ok (.getfield 23, 3) := by decide +kernel
theorem d_M_about_115 : decode b_M_about 115 = .ok (.iload 4, 2) := by decide +kernel
theorem d_M_about_117 : decode b_M_about 117 = .ok (.iaload, 1) := by decide +kernel
theorem d_M_about_118 : decode b_M_about 118 = .ok (.iload_n 1, 1) := by decide +kernel
theorem d_M_about_119 : decode b_M_about 119 = .ok (.if_icmp .ne 7, 3) := by decide +kernel
theorem d_M_about_122 : decode b_M_about 122 = .ok (.iconst 1, 1) := by decide +kernel
theorem d_M_about_123 : decode b_M_about 123 = .ok (.goto 4, 3) := by decide +kernel
theorem d_M_about_126 : decode b_M_about 126 = .ok (.iconst 0, 1) := by decide +kernel
theorem d_M_about_127 : decode b_M_about 127 = .ok (.iadd, 1) := by decide +kernel
theorem d_M_about_128 : decode b_M_about 128 = .ok (.iadd, 1) := by decide +kernel
theorem d_M_about_129 : decode b_M_about 129 = .ok (.istore_n 3, 1) := by decide +kernel
theorem d_M_about_130 : decode b_M_about 130 = .ok (.iinc 4 1, 3) := by decide +kernel
theorem d_M_about_133 : decode b_M_about 133 = .ok (.goto (-48), 3) := by decide +kernel
theorem d_M_about_136 : decode b_M_about 136 = .ok (.iload_n 2, 1) := by decide +kernel
theorem d_M_about_137 : decode b_M_about 137 = .ok (.ifCond .ne 12, 3) := by decide +kernel
theorem d_M_about_140 : decode b_M_about 140 = .ok (.aload_n 0, 1) := by decide +kernel
theorem d_M_about_141 : decode b_M_about 141 = .ok (.getfield 20, 3) := by decide +kernel
theorem d_M_about_144 : decode b_M_about 144 = .ok (.iload_n 1, 1) := by decide +kernel
theorem d_M_about_145 : decode b_M_about 145 = .ok (.iaload, 1) := by decide +kernel
theorem d_M_about_146 : decode b_M_about 146 = .ok (.goto 18, 3) := by decide +kernel
theorem d_M_about_149 : decode b_M_about 149 = .ok (.iload_n 2, 1) := by decide +kernel
theorem d_M_about_150 : decode b_M_about 150 = .ok (.iconst 1, 1) := by decide +kernel
theorem d_M_about_151 : decode b_M_about 151 = .ok (.if_icmp .ne 12, 3) := by decide +kernel
theorem d_M_about_154 : decode b_M_about 154 = .ok (.aload_n 0, 1) := by decide +kernel
theorem d_M_about_155 : decode b_M_about 155 = .ok (.getfield 23, 3) := by decide +kernel
theorem d_M_about_158 : decode b_M_about 158 = .ok (.iload_n 1, 1) := by decide +kernel
theorem d_M_about_159 : decode b_M_about 159 = .ok (.iaload, 1) := by decide +kernel
theorem d_M_about_160 : decode b_M_about 160 = .ok (.goto 4, 3) := by decide +kernel
theorem d_M_about_163 : decode b_M_about 163 = .ok (.iload_n 3, 1) := by decide +kernel
theorem d_M_about_164 : decode b_M_about 164 = .ok (.ireturn, 1) := by decide +kernel
theorem d_M_blocks_0 : decode b_M_blocks 0 = .ok (.aload_n 0, 1) := by decide +kernel
theorem d_M_blocks_1 : decode b_M_blocks 1 = .ok (.iconst 0, 1) := by decide +kernel
theorem d_M_blocks_2 : decode b_M_blocks 2 = .ok (.putfield 90, 3) := by decide +kernel
theorem d_M_blocks_5 : decode b_M_blocks 5 = .ok (.iload_n 1, 1) := by decide +kernel
theorem d_M_blocks_6 : decode b_M_blocks 6 = .ok (.invokestatic 102, 3) := by decide +kernel
theorem d_M_blocks_9 : decode b_M_blocks 9 = .ok (.ifCond .ne 5, 3) := by decide +kernel
theorem d_M_blocks_12 : decode b_M_blocks 12 = .ok (.iconst (-1), 1) := by decide +kernel
theorem d_M_blocks_13 : decode b_M_blocks 13 = .ok (.ireturn, 1) := by decide +kernel
theorem d_M_blocks_14 : decode b_M_blocks 14 = .ok (.iconst 0, 1) := by decide +kernel
theorem d_M_blocks_15 : decode b_M_blocks 15 = .ok (.istore_n 2, 1) := by decide +kernel
theorem d_M_blocks_16 : decode b_M_blocks 16 = .ok (.iload_n 2, 1) := by decide +kernel
theorem d_M_blocks_17 : decode b_M_blocks 17 = .ok (.sipush 4096, 3) := by decide +kernel
theorem d_M_blocks_20 : decode b_M_blocks 20 = .ok (.if_icmp .ge 16, 3) := by decide +kernel
theorem d_M_blocks_23 : decode b_M_blocks 23 = .ok (.aload_n 0, 1) := by decide +kernel
theorem d_M_blocks_24 : decode b_M_blocks 24 = .ok (.getfield 86, 3) := by decide +kernel
theorem d_M_blocks_27 : decode b_M_blocks 27 = .ok (.iload_n 2, 1) := by decide +kernel
theorem d_M_blocks_28 : decode b_M_blocks 28 = .ok (.iconst (-1), 1) := by decide +kernel
theorem d_M_blocks_29 : decode b_M_blocks 29 = .ok (.iastore, 1) := by decide +kernel
theorem d_M_blocks_30 : decode b_M_blocks 30 = .ok (.iinc 2 1, 3) := by decide +kernel
theorem d_M_blocks_33 : decode b_M_blocks 33 = .ok (.goto (-17), 3) := by decide +kernel
theorem d_M_blocks_36 : decode b_M_blocks 36 = .ok (.iconst 0, 1) := by decide +kernel
theorem d_M_blocks_37 : decode b_M_blocks 37 = .ok (.istore_n 2, 1) := by decide +kernel
theorem d_M_blocks_38 : decode b_M_blocks 38 = .ok (.iconst 0, 1) := by decide +kernel
theorem d_M_blocks_39 : decode b_M_blocks 39 = .ok (.istore_n 3, 1) := by decide +kernel
theorem d_M_blocks_40 : decode b_M_blocks 40 = .ok (.iload_n 3, 1) := by decide +kernel
theorem d_M_blocks_41 : decode b_M_blocks 41 = .ok (.bipush 28, 2) := by decide +kernel
theorem d_M_blocks_43 : decode b_M_blocks 43 = .ok (.if_icmp .ge 81, 3) := by decide +kernel
theorem d_M_blocks_46 : decode b_M_blocks 46 = .ok (.aload_n 0, 1) := by decide +kernel
theorem d_M_blocks_47 : decode b_M_blocks 47 = .ok (.iload_n 3, 1) := by decide +kernel
theorem d_M_blocks_48 : decode b_M_blocks 48 = .ok (.invokevirtual 172, 3) := by decide +kernel
theorem d_M_blocks_51 : decode b_M_blocks 51 = .ok (.ifCond .ne 6, 3) := by decide +kernel
theorem d_M_blocks_54 : decode b_M_blocks 54 = .ok (.goto 64, 3) := by decide +kernel
theorem d_M_blocks_57 : decode b_M_blocks 57 = .ok (.iconst 0, 1) := by decide +kernel
theorem d_M_blocks_58 : decode b_M_blocks 58 = .ok (.istore 4, 2) := by decide +kernel
theorem d_M_blocks_60 : decode b_M_blocks 60 = .ok (.iload 4, 2) := by decide +kernel
theorem d_M_blocks_62 : decode b_M_blocks 62 = .ok (.bipush 32, 2) := by decide +kernel
theorem d_M_blocks_64 : decode b_M_blocks 64 = .ok (.if_icmp .ge 54, 3) := by decide +kernel
theorem d_M_blocks_67 : decode b_M_blocks 67 = .ok (.iconst 0, 1) := by decide +kernel
theorem d_M_blocks_68 : decode b_M_blocks 68 = .ok (.istore 5, 2) := by decide +kernel
theorem d_M_blocks_70 : decode b_M_blocks 70 = .ok (.iload 5, 2) := by decide +kernel
theorem d_M_blocks_72 : decode b_M_blocks 72 = .ok (.bipush 32, 2) := by decide +kernel
theorem d_M_blocks_74 : decode b_M_blocks 74 = .ok (.if_icmp .ge 38, 3) := by decide +kernel
theorem d_M_blocks_77 : decode b_M_blocks 77 = .ok (.iload_n 2, 1) := by decide +kernel
theorem d_M_blocks_78 : decode b_M_blocks 78 = .ok (.aload_n 0, 1) := by decide +kernel
theorem d_M_blocks_79 : decode b_M_blocks 79 = .ok (.sipush 4096, 3) := by decide +kernel
theorem d_M_blocks_82 : decode b_M_blocks 82 = .ok (.iload_n 3, 1) := by decide +kernel
theorem d_M_blocks_83 : decode b_M_blocks 83 = .ok (.imul, 1) := by decide +kernel
theorem d_M_blocks_84 : decode b_M_blocks 84 = .ok (.iload_n 1, 1) := by decide +kernel
theorem d_M_blocks_85 : decode b_M_blocks 85 = .ok (.iload 5, 2) := by decide +kernel
theorem d_M_blocks_87 : decode b_M_blocks 87 = .ok (.iload 4, 2) := by decide +kernel
theorem d_M_blocks_89 : decode b_M_blocks 89 = .ok (.invokestatic 123, 3) := by decide +kernel
theorem d_M_blocks_92 : decode b_M_blocks 92 = .ok (.iadd, 1) := by decide +kernel
theorem d_M_blocks_93 : decode b_M_blocks 93 = .ok (.invokevirtual 181, 3) := by decide +kernel
theorem d_M_blocks_96 : decode b_M_blocks 96 = .ok (.ifCond .eq 7, 3) := by decide +kernel
theorem d_M_blocks_99 : decode b_M_blocks 99 = .ok (.iconst 1, 1) := by decide +kernel
theorem d_M_blocks_100 : decode b_M_blocks 100 = .ok (.goto 4, 3) := by decide +kernel
theorem d_M_blocks_103 : decode b_M_blocks 103 = .ok (.iconst 0, 1) := by decide +kernel
theorem d_M_blocks_104 : decode b_M_blocks 104 = .ok (.iadd, 1) := by decide +kernel
theorem d_M_blocks_105 : decode b_M_blocks 105 = .ok (.istore_n 2, 1) := by decide +kernel
theorem d_M_blocks_106 : decode b_M_blocks 106 = .ok (.iinc 5 4, 3) := by decide +kernel
theorem d_M_blocks_109 : decode b_M_blocks 109 = .ok (.goto (-39), 3) := by decide +kernel
theorem d_M_blocks_112 : decode b_M_blocks 112 = .ok (.iinc 4 4, 3) := by decide +kernel
theorem d_M_blocks_115 : decode b_M_blocks 115 = .ok (.goto (-55), 3) := by decide +kernel
theorem d_M_blocks_118 : decode b_M_blocks 118 = .ok (.iinc 3 1, 3) := by decide +kernel
theorem d_M_blocks_121 : decode b_M_blocks 121 = .ok (.goto (-81), 3) := by decide +kernel
theorem d_M_blocks_124 : decode b_M_blocks 124 = .ok (.iload_n 2, 1) := by decide +kernel
theorem d_M_blocks_125 : decode b_M_blocks 125 = .ok (.ireturn, 1) := by decide +kernel
theorem d_M_isNew_0 : decode b_M_isNew 0 = .ok (.iconst 0, 1) := by decide +kernel
theorem d_M_isNew_1 : decode b_M_isNew 1 = .ok (.istore_n 2, 1) := by decide +kernel
theorem d_M_isNew_2 : decode b_M_isNew 2 = .ok (.iconst 0, 1) := by decide +kernel
theorem d_M_isNew_3 : decode b_M_isNew 3 = .ok (.istore_n 3, 1) := by decide +kernel
theorem d_M_isNew_4 : decode b_M_isNew 4 = .ok (.iconst 0, 1) := by decide +kernel
theorem d_M_isNew_5 : decode b_M_isNew 5 = .ok (.istore 4, 2) := by decide +kernel
theorem d_M_isNew_7 : decode b_M_isNew 7 = .ok (.iload 4, 2) := by decide +kernel
theorem d_M_isNew_9 : decode b_M_isNew 9 = .ok (.bipush 16, 2) := by decide +kernel
theorem d_M_isNew_11 : decode b_M_isNew 11 = .ok (.if_icmp .ge 55, 3) := by decide +kernel
theorem d_M_isNew_14 : decode b_M_isNew 14 = .ok (.aload_n 0, 1) := by decide +kernel
theorem d_M_isNew_15 : decode b_M_isNew 15 = .ok (.getfield 8, 3) := by decide +kernel
theorem d_M_isNew_18 : decode b_M_isNew 18 = .ok (.iload_n 1, 1) := by decide +kernel
theorem d_M_isNew_19 : decode b_M_isNew 19 = .ok (.iload 4, 2) := by decide +kernel
theorem d_M_isNew_21 : decode b_M_isNew 21 = .ok (.iconst 4, 1) := by decide +kernel
theorem d_M_isNew_22 : decode b_M_isNew 22 = .ok (.idiv, 1) := by decide +kernel
theorem d_M_isNew_23 : decode b_M_isNew 23 = .ok (.bipush 32, 2) := by decide +kernel
theorem d_M_isNew_25 : decode b_M_isNew 25 = .ok (.imul, 1) := by decide +kernel
theorem d_M_isNew_26 : decode b_M_isNew 26 = .ok (.iadd, 1) := by decide +kernel
theorem d_M_isNew_27 : decode b_M_isNew 27 = .ok (.iload 4, 2) := by decide +kernel
theorem d_M_isNew_29 : decode b_M_isNew 29 = .ok (.iconst 4, 1) := by decide +kernel
theorem d_M_isNew_30 : decode b_M_isNew 30 = .ok (.irem, 1) := by decide +kernel
theorem d_M_isNew_31 : decode b_M_isNew 31 = .ok (.iadd, 1) := by decide +kernel
theorem d_M_isNew_32 : decode b_M_isNew 32 = .ok (.iaload, 1) := by decide +kernel
theorem d_M_isNew_33 : decode b_M_isNew 33 = .ok (.istore 5, 2) := by decide +kernel
theorem d_M_isNew_35 : decode b_M_isNew 35 = .ok (.iload_n 3, 1) := by decide +kernel
theorem d_M_isNew_36 : decode b_M_isNew 36 = .ok (.ifCond .ne 10, 3) := by decide +kernel
theorem d_M_isNew_39 : decode b_M_isNew 39 = .ok (.iload 5, 2) := by decide +kernel
theorem d_M_isNew_41 : decode b_M_isNew 41 = .ok (.ldc 89, 2) := by decide +kernel
theorem d_M_isNew_43 : decode b_M_isNew 43 = .ok (.if_icmp .eq 7, 3) := by decide +kernel
theorem d_M_isNew_46 : decode b_M_isNew 46 = .ok (.iconst 1, 1) := by decide +kernel
theorem d_M_isNew_47 : decode b_M_isNew 47 = .ok (.goto 4, 3) := by decide +kernel
theorem d_M_isNew_50 : decode b_M_isNew 50 = .ok (.iconst 0, 1) := by decide +kernel
theorem d_M_isNew_51 : decode b_M_isNew 51 = .ok (.istore_n 3, 1) := by decide +kernel
theorem d_M_isNew_52 : decode b_M_isNew 52 = .ok (.bipush 31, 2) := by decide +kernel
theorem d_M_isNew_54 : decode b_M_isNew 54 = .ok (.iload_n 2, 1) := by decide +kernel
theorem d_M_isNew_55 : decode b_M_isNew 55 = .ok (.imul, 1) := by decide +kernel
theorem d_M_isNew_56 : decode b_M_isNew 56 = .ok (.iload 5, 2) := by decide +kernel
theorem d_M_isNew_58 : decode b_M_isNew 58 = .ok (.iadd, 1) := by decide +kernel
theorem d_M_isNew_59 : decode b_M_isNew 59 = .ok (.istore_n 2, 1) := by decide +kernel
theorem d_M_isNew_60 : decode b_M_isNew 60 = .ok (.iinc 4 1, 3) := by decide +kernel
theorem d_M_isNew_63 : decode b_M_isNew 63 = .ok (.goto (-56), 3) := by decide +kernel
theorem d_M_isNew_66 : decode b_M_isNew 66 = .ok (.iload_n 3, 1) := by decide +kernel
theorem d_M_isNew_67 : decode b_M_isNew 67 = .ok (.ifCond .ne 5, 3) := by decide +kernel
theorem d_M_isNew_70 : decode b_M_isNew 70 = .ok (.iconst 0, 1) := by decide +kernel
theorem d_M_isNew_71 : decode b_M_isNew 71 = .ok (.ireturn, 1) := by decide +kernel
theorem d_M_isNew_72 : decode b_M_isNew 72 = .ok (.iload_n 2, 1) := by decide +kernel
theorem d_M_isNew_73 : decode b_M_isNew 73 = .ok (.iload_n 2, 1) := by decide +kernel
theorem d_M_isNew_74 : decode b_M_isNew 74 = .ok (.bipush 12, 2) := by decide +kernel
theorem d_M_isNew_76 : decode b_M_isNew 76 = .ok (.iushr, 1) := by decide +kernel
theorem d_M_isNew_77 : decode b_M_isNew 77 = .ok (.ixor, 1) := by decide +kernel
theorem d_M_isNew_78 : decode b_M_isNew 78 = .ok (.iload_n 2, 1) := by decide +kernel
theorem d_M_isNew_79 : decode b_M_isNew 79 = .ok (.bipush 20, 2) := by decide +kernel
theorem d_M_isNew_81 : decode b_M_isNew 81 = .ok (.iushr, 1) := by decide +kernel
theorem d_M_isNew_82 : decode b_M_isNew 82 = .ok (.ixor, 1) := by decide +kernel
theorem d_M_isNew_83 : decode b_M_isNew 83 = .ok (.sipush 4095, 3) := by decide +kernel
theorem d_M_isNew_86 : decode b_M_isNew 86 = .ok (.iand, 1) := by decide +kernel
theorem d_M_isNew_87 : decode b_M_isNew 87 = .ok (.istore 4, 2) := by decide +kernel
theorem d_M_isNew_89 : decode b_M_isNew 89 = .ok (.aload_n 0, 1) := by decide +kernel
theorem d_M_isNew_90 : decode b_M_isNew 90 = .ok (.getfield 86, 3) := by decide +kernel
theorem d_M_isNew_93 : decode b_M_isNew 93 = .ok (.iload 4, 2) := by decide +kernel
theorem d_M_isNew_95 : decode b_M_isNew 95 = .ok (.iaload, 1) := by decide +kernel
theorem d_M_isNew_96 : decode b_M_isNew 96 = .ok (.ifCond .lt 31, 3) := by decide +kernel
theorem d_M_isNew_99 : decode b_M_isNew 99 = .ok (.aload_n 0, 1) := by decide +kernel
theorem d_M_isNew_100 : decode b_M_isNew 100 = .ok (.aload_n 0, 1) := by decide +kernel
theorem d_M_isNew_101 : decode b_M_isNew 101 = .ok (.getfield 86, 3) := by decide +kernel
theorem d_M_isNew_104 : decode b_M_isNew 104 = .ok (.iload 4, 2) := by decide +kernel
theorem d_M_isNew_106 : decode b_M_isNew 106 = .ok (.iaload, 1) := by decide +kernel
theorem d_M_isNew_107 : decode b_M_isNew 107 = .ok (.iload_n 1, 1) := by decide +kernel
theorem d_M_isNew_108 : decode b_M_isNew 108 = .ok (.invokevirtual 178, 3) := by decide +kernel
theorem d_M_isNew_111 : decode b_M_isNew 111 = .ok (.ifCond .ne 16, 3) := by decide +kernel
theorem d_M_isNew_114 : decode b_M_isNew 114 = .ok (.iload 4, 2) := by decide +kernel
theorem d_M_isNew_116 : decode b_M_isNew 116 = .ok (.iconst 1, 1) := by decide +kernel
theorem d_M_isNew_117 : decode b_M_isNew 117 = .ok (.iadd, 1) := by decide +kernel
theorem d_M_isNew_118 : decode b_M_isNew 118 = .ok (.sipush 4095, 3) := by decide +kernel
theorem d_M_isNew_121 : decode b_M_isNew 121 = .ok (.iand, 1) := by decide +kernel
theorem d_M_isNew_122 : decode b_M_isNew 122 = .ok (.istore 4, 2) := by decide +kernel
theorem d_M_isNew_124 : decode b_M_isNew 124 = .ok (.goto (-35), 3) := by decide +kernel
theorem d_M_isNew_127 : decode b_M_isNew 127 = .ok (.aload_n 0, 1) := by decide +kernel
theorem d_M_isNew_128 : decode b_M_isNew 128 = .ok (.getfield 86, 3) := by decide +kernel
theorem d_M_isNew_131 : decode b_M_isNew 131 = .ok (.iload 4, 2) := by decide +kernel
theorem d_M_isNew_133 : decode b_M_isNew 133 = .ok (.iaload, 1) := by decide +kernel
theorem d_M_isNew_134 : decode b_M_isNew 134 = .ok (.ifCond .lt 5, 3) := by decide +kernel
theorem d_M_isNew_137 : decode b_M_isNew 137 = .ok (.iconst 0, 1) := by decide +kernel
theorem d_M_isNew_138 : decode b_M_isNew 138 = .ok (.ireturn, 1) := by decide +kernel
theorem d_M_isNew_139 : decode b_M_isNew 139 = .ok (.aload_n 0, 1) := by decide +kernel
theorem d_M_isNew_140 : decode b_M_isNew 140 = .ok (.getfield 86, 3) := by decide +kernel
theorem d_M_isNew_143 : decode b_M_isNew 143 = .ok (.iload 4, 2) := by decide +kernel
theorem d_M_isNew_145 : decode b_M_isNew 145 = .ok (.iload_n 1, 1) := by decide +kernel
theorem d_M_isNew_146 : decode b_M_isNew 146 = .ok (.iastore, 1) := by decide +kernel
theorem d_M_isNew_147 : decode b_M_isNew 147 = .ok (.iconst 1, 1) := by decide +kernel
theorem d_M_isNew_148 : decode b_M_isNew 148 = .ok (.ireturn, 1) := by decide +kernel
theorem d_M_sameBlock_0 : decode b_M_sameBlock 0 = .ok (.iconst 1, 1) := by decide +kernel
theorem d_M_sameBlock_1 : decode b_M_sameBlock 1 = .ok (.istore_n 3, 1) := by decide +kernel
theorem d_M_sameBlock_2 : decode b_M_sameBlock 2 = .ok (.iconst 0, 1) := by decide +kernel
theorem d_M_sameBlock_3 : decode b_M_sameBlock 3 = .ok (.istore 4, 2) := by decide +kernel
theorem d_M_sameBlock_5 : decode b_M_sameBlock 5 = .ok (.iload 4, 2) := by decide +kernel
theorem d_M_sameBlock_7 : decode b_M_sameBlock 7 = .ok (.bipush 16, 2) := by decide +kernel
theorem d_M_sameBlock_9 : decode b_M_sameBlock 9 = .ok (.if_icmp .ge 60, 3) := by decide +kernel
theorem d_M_sameBlock_12 : decode b_M_sameBlock 12 = .ok (.iload_n 3, 1) := by decide +kernel
theorem d_M_sameBlock_13 : decode b_M_sameBlock 13 = .ok (.ifCond .eq 56, 3) := by decide +kernel
theorem d_M_sameBlock_16 : decode b_M_sameBlock 16 = .ok (.aload_n 0, 1) := by decide +kernel
theorem d_M_sameBlock_17 : decode b_M_sameBlock 17 = .ok (.getfield 8, 3) := by decide +kernel
theorem d_M_sameBlock_20 : decode b_M_sameBlock 20 = .ok (.iload_n 1, 1) := by decide +kernel
theorem d_M_sameBlock_21 : decode b_M_sameBlock 21 = .ok (.iload 4, 2) := by decide +kernel
theorem d_M_sameBlock_23 : decode b_M_sameBlock 23 = .ok (.iconst 4, 1) := by decide +kernel
theorem d_M_sameBlock_24 : decode b_M_sameBlock 24 = .ok (.idiv, 1) := by decide +kernel
theorem d_M_sameBlock_25 : decode b_M_sameBlock 25 = .ok (.bipush 32, 2) := by decide +kernel
theorem d_M_sameBlock_27 : decode b_M_sameBlock 27 = .ok (.imul, 1) := by decide +kernel
theorem d_M_sameBlock_28 : decode b_M_sameBlock 28 = .ok (.iadd, 1) := by decide +kernel
theorem d_M_sameBlock_29 : decode b_M_sameBlock 29 = .ok (.iload 4, 2) := by decide +kernel
theorem d_M_sameBlock_31 : decode b_M_sameBlock 31 = .ok (.iconst 4, 1) := by decide +kernel
theorem d_M_sameBlock_32 : decode b_M_sameBlock 32 = .ok (.irem, 1) := by decide +kernel
theorem d_M_sameBlock_33 : decode b_M_sameBlock 33 = .ok (.iadd, 1) := by decide +kernel
theorem d_M_sameBlock_34 : decode b_M_sameBlock 34 = .ok (.iaload, 1) := by decide +kernel
theorem d_M_sameBlock_35 : decode b_M_sameBlock 35 = .ok (.aload_n 0, 1) := by decide +kernel
theorem d_M_sameBlock_36 : decode b_M_sameBlock 36 = .ok (.getfield 8, 3) := by decide +kernel
theorem d_M_sameBlock_39 : decode b_M_sameBlock 39 = .ok (.iload_n 2, 1) := by decide +kernel
theorem d_M_sameBlock_40 : decode b_M_sameBlock 40 = .ok (.iload 4, 2) := by decide +kernel
theorem d_M_sameBlock_42 : decode b_M_sameBlock 42 = .ok (.iconst 4, 1) := by decide +kernel
theorem d_M_sameBlock_43 : decode b_M_sameBlock 43 = .ok (.idiv, 1) := by decide +kernel
theorem d_M_sameBlock_44 : decode b_M_sameBlock 44 = .ok (.bipush 32, 2) := by decide +kernel
theorem d_M_sameBlock_46 : decode b_M_sameBlock 46 = .ok (.imul, 1) := by decide +kernel
theorem d_M_sameBlock_47 : decode b_M_sameBlock 47 = .ok (.iadd, 1) := by decide +kernel
theorem d_M_sameBlock_48 : decode b_M_sameBlock 48 = .ok (.iload 4, 2) := by decide +kernel
theorem d_M_sameBlock_50 : decode b_M_sameBlock 50 = .ok (.iconst 4, 1) := by decide +kernel
theorem d_M_sameBlock_51 : decode b_M_sameBlock 51 = .ok (.irem, 1) := by decide +kernel
theorem d_M_sameBlock_52 : decode b_M_sameBlock 52 = .ok (.iadd, 1) := by decide +kernel
theorem d_M_sameBlock_53 : decode b_M_sameBlock 53 = .ok (.iaload, 1) := by decide +kernel
theorem d_M_sameBlock_54 : decode b_M_sameBlock 54 = .ok (.if_icmp .ne 7, 3) := by decide +kernel
theorem d_M_sameBlock_57 : decode b_M_sameBlock 57 = .ok (.iconst 1, 1) := by decide +kernel
theorem d_M_sameBlock_58 : decode b_M_sameBlock 58 = .ok (.goto 4, 3) := by decide +kernel
theorem d_M_sameBlock_61 : decode b_M_sameBlock 61 = .ok (.iconst 0, 1) := by decide +kernel
theorem d_M_sameBlock_62 : decode b_M_sameBlock 62 = .ok (.istore_n 3, 1) := by decide +kernel
theorem d_M_sameBlock_63 : decode b_M_sameBlock 63 = .ok (.iinc 4 1, 3) := by decide +kernel
theorem d_M_sameBlock_66 : decode b_M_sameBlock 66 = .ok (.goto (-61), 3) := by decide +kernel
theorem d_M_sameBlock_69 : decode b_M_sameBlock 69 = .ok (.iload_n 3, 1) := by decide +kernel
theorem d_M_sameBlock_70 : decode b_M_sameBlock 70 = .ok (.ireturn, 1) := by decide +kernel
end
section
theorem d_L_branch_0 : decode b_L_branch 0 = .ok (.aload_n 0, 1) := by decide +kernel
theorem d_L_branch_1 : decode b_L_branch 1 = .ok (.iload_n 1, 1) := by decide +kernel
theorem d_L_branch_2 : decode b_L_branch 2 = .ok (.iload_n 2, 1) := by decide +kernel
theorem d_L_branch_3 : decode b_L_branch 3 = .ok (.invokevirtual 7, 3) := by decide +kernel
theorem d_L_branch_6 : decode b_L_branch 6 = .ok (.goto 9, 3) := by decide +kernel
theorem d_L_branch_9 : decode b_L_branch 9 = .ok (.astore_n 3, 1) := by decide +kernel
theorem d_L_branch_10 : decode b_L_branch 10 = .ok (.iconst 1, 1) := by decide +kernel
theorem d_L_branch_11 : decode b_L_branch 11 = .ok (.ireturn, 1) := by decide +kernel
theorem d_L_branch_12 : decode b_L_branch 12 = .ok (.astore_n 3, 1) := by decide +kernel
theorem d_L_branch_13 : decode b_L_branch 13 = .ok (.iconst 2, 1) := by decide +kernel
theorem d_L_branch_14 : decode b_L_branch 14 = .ok (.ireturn, 1) := by decide +kernel
theorem d_L_branch_15 : decode b_L_branch 15 = .ok (.iconst 0, 1) := by decide +kernel
theorem d_L_branch_16 : decode b_L_branch 16 = .ok (.ireturn, 1) := by decide +kernel
theorem d_L_paint_0 : decode b_L_paint 0 = .ok (.aload_n 0, 1) := by decide +kernel
theorem d_L_paint_1 : decode b_L_paint 1 = .ok (.iload_n 1, 1) := by decide +kernel
theorem d_L_paint_2 : decode b_L_paint 2 = .ok (.iload_n 2, 1) := by decide +kernel
theorem d_L_paint_3 : decode b_L_paint 3 = .ok (.iload_n 3, 1) := by decide +kernel
theorem d_L_paint_4 : decode b_L_paint 4 = .ok (.invokevirtual 17, 3) := by decide +kernel
theorem d_L_paint_7 : decode b_L_paint 7 = .ok (.goto 7, 3) := by decide +kernel
theorem d_L_paint_10 : decode b_L_paint 10 = .ok (.astore 4, 2) := by decide +kernel
theorem d_L_paint_12 : decode b_L_paint 12 = .ok (.iconst 1, 1) := by decide +kernel
theorem d_L_paint_13 : decode b_L_paint 13 = .ok (.ireturn, 1) := by decide +kernel
theorem d_L_paint_14 : decode b_L_paint 14 = .ok (.iconst 0, 1) := by decide +kernel
theorem d_L_paint_15 : decode b_L_paint 15 = .ok (.ireturn, 1) := by decide +kernel
theorem d_L_polygon_0 : decode b_L_polygon 0 = .ok (.aload_n 0, 1) := by decide +kernel
theorem d_L_polygon_1 : decode b_L_polygon 1 = .ok (.iload_n 1, 1) := by decide +kernel
theorem d_L_polygon_2 : decode b_L_polygon 2 = .ok (.iload_n 2, 1) := by decide +kernel
theorem d_L_polygon_3 : decode b_L_polygon 3 = .ok (.iload_n 3, 1) := by decide +kernel
theorem d_L_polygon_4 : decode b_L_polygon 4 = .ok (.iload 4, 2) := by decide +kernel
theorem d_L_polygon_6 : decode b_L_polygon 6 = .ok (.invokevirtual 21, 3) := by decide +kernel
theorem d_L_polygon_9 : decode b_L_polygon 9 = .ok (.goto 7, 3) := by decide +kernel
theorem d_L_polygon_12 : decode b_L_polygon 12 = .ok (.astore 5, 2) := by decide +kernel
theorem d_L_polygon_14 : decode b_L_polygon 14 = .ok (.iconst 1, 1) := by decide +kernel
theorem d_L_polygon_15 : decode b_L_polygon 15 = .ok (.ireturn, 1) := by decide +kernel
theorem d_L_polygon_16 : decode b_L_polygon 16 = .ok (.iconst 0, 1) := by decide +kernel
theorem d_L_polygon_17 : decode b_L_polygon 17 = .ok (.ireturn, 1) := by decide +kernel
theorem d_L_copy_0 : decode b_L_copy 0 = .ok (.aload_n 0, 1) := by decide +kernel
theorem d_L_copy_1 : decode b_L_copy 1 = .ok (.iload_n 1, 1) := by decide +kernel
theorem d_L_copy_2 : decode b_L_copy 2 = .ok (.iload_n 2, 1) := by decide +kernel
theorem d_L_copy_3 : decode b_L_copy 3 = .ok (.iload_n 3, 1) := by decide +kernel
theorem d_L_copy_4 : decode b_L_copy 4 = .ok (.iload 4, 2) := by decide +kernel
theorem d_L_copy_6 : decode b_L_copy 6 = .ok (.iload 5, 2) := by decide +kernel
theorem d_L_copy_8 : decode b_L_copy 8 = .ok (.iload 6, 2) := by decide +kernel
theorem d_L_copy_10 : decode b_L_copy 10 = .ok (.invokevirtual 25, 3) := by decide +kernel
theorem d_L_copy_13 : decode b_L_copy 13 = .ok (.goto 7, 3) := by decide +kernel
theorem d_L_copy_16 : decode b_L_copy 16 = .ok (.astore 7, 2) := by decide +kernel
theorem d_L_copy_18 : decode b_L_copy 18 = .ok (.iconst 1, 1) := by decide +kernel
theorem d_L_copy_19 : decode b_L_copy 19 = .ok (.ireturn, 1) := by decide +kernel
theorem d_L_copy_20 : decode b_L_copy 20 = .ok (.iconst 0, 1) := by decide +kernel
theorem d_L_copy_21 : decode b_L_copy 21 = .ok (.ireturn, 1) := by decide +kernel
theorem d_L_map_0 : decode b_L_map 0 = .ok (.aload_n 0, 1) := by decide +kernel
theorem d_L_map_1 : decode b_L_map 1 = .ok (.iload_n 1, 1) := by decide +kernel
theorem d_L_map_2 : decode b_L_map 2 = .ok (.iload_n 2, 1) := by decide +kernel
theorem d_L_map_3 : decode b_L_map 3 = .ok (.invokevirtual 29, 3) := by decide +kernel
theorem d_L_map_6 : decode b_L_map 6 = .ok (.goto 6, 3) := by decide +kernel
theorem d_L_map_9 : decode b_L_map 9 = .ok (.astore_n 3, 1) := by decide +kernel
theorem d_L_map_10 : decode b_L_map 10 = .ok (.iconst 1, 1) := by decide +kernel
theorem d_L_map_11 : decode b_L_map 11 = .ok (.ireturn, 1) := by decide +kernel
theorem d_L_map_12 : decode b_L_map 12 = .ok (.iconst 0, 1) := by decide +kernel
theorem d_L_map_13 : decode b_L_map 13 = .ok (.ireturn, 1) := by decide +kernel
theorem d_L_combine_0 : decode b_L_combine 0 = .ok (.aload_n 0, 1) := by decide +kernel
theorem d_L_combine_1 : decode b_L_combine 1 = .ok (.iload_n 1, 1) := by decide +kernel
theorem d_L_combine_2 : decode b_L_combine 2 = .ok (.iload_n 2, 1) := by decide +kernel
theorem d_L_combine_3 : decode b_L_combine 3 = .ok (.iload_n 3, 1) := by decide +kernel
theorem d_L_combine_4 : decode b_L_combine 4 = .ok (.iload 4, 2) := by decide +kernel
theorem d_L_combine_6 : decode b_L_combine 6 = .ok (.invokevirtual 32, 3) := by decide +kernel
theorem d_L_combine_9 : decode b_L_combine 9 = .ok (.goto 7, 3) := by decide +kernel
theorem d_L_combine_12 : decode b_L_combine 12 = .ok (.astore 5, 2) := by decide +kernel
theorem d_L_combine_14 : decode b_L_combine 14 = .ok (.iconst 1, 1) := by decide +kernel
theorem d_L_combine_15 : decode b_L_combine 15 = .ok (.ireturn, 1) := by decide +kernel
theorem d_L_combine_16 : decode b_L_combine 16 = .ok (.iconst 0, 1) := by decide +kernel
theorem d_L_combine_17 : decode b_L_combine 17 = .ok (.ireturn, 1) := by decide +kernel
theorem d_L_commit_0 : decode b_L_commit 0 = .ok (.aload_n 2, 1) := by decide +kernel
theorem d_L_commit_1 : decode b_L_commit 1 = .ok (.iconst 0, 1) := by decide +kernel
theorem d_L_commit_2 : decode b_L_commit 2 = .ok (.aload_n 0, 1) := by decide +kernel
theorem d_L_commit_3 : decode b_L_commit 3 = .ok (.iload_n 1, 1) := by decide +kernel
theorem d_L_commit_4 : decode b_L_commit 4 = .ok (.invokevirtual 35, 3) := by decide +kernel
theorem d_L_commit_7 : decode b_L_commit 7 = .ok (.i2l, 1) := by decide +kernel
theorem d_L_commit_8 : decode b_L_commit 8 = .ok (.lastore, 1) := by decide +kernel
theorem d_L_commit_9 : decode b_L_commit 9 = .ok (.goto 9, 3) := by decide +kernel
theorem d_L_commit_12 : decode b_L_commit 12 = .ok (.astore_n 3, 1) := by decide +kernel
theorem d_L_commit_13 : decode b_L_commit 13 = .ok (.iconst 1, 1) := by decide +kernel
theorem d_L_commit_14 : decode b_L_commit 14 = .ok (.ireturn, 1) := by decide +kernel
theorem d_L_commit_15 : decode b_L_commit 15 = .ok (.astore_n 3, 1) := by decide +kernel
theorem d_L_commit_16 : decode b_L_commit 16 = .ok (.iconst 2, 1) := by decide +kernel
theorem d_L_commit_17 : decode b_L_commit 17 = .ok (.ireturn, 1) := by decide +kernel
theorem d_L_commit_18 : decode b_L_commit 18 = .ok (.iconst 0, 1) := by decide +kernel
theorem d_L_commit_19 : decode b_L_commit 19 = .ok (.ireturn, 1) := by decide +kernel
theorem d_L_merge_0 : decode b_L_merge 0 = .ok (.aload_n 3, 1) := by decide +kernel
theorem d_L_merge_1 : decode b_L_merge 1 = .ok (.iconst 0, 1) := by decide +kernel
theorem d_L_merge_2 : decode b_L_merge 2 = .ok (.aload_n 0, 1) := by decide +kernel
theorem d_L_merge_3 : decode b_L_merge 3 = .ok (.iload_n 1, 1) := by decide +kernel
theorem d_L_merge_4 : decode b_L_merge 4 = .ok (.iload_n 2, 1) := by decide +kernel
theorem d_L_merge_5 : decode b_L_merge 5 = .ok (.invokevirtual 39, 3) := by decide +kernel
theorem d_L_merge_8 : decode b_L_merge 8 = .ok (.i2l, 1) := by decide +kernel
theorem d_L_merge_9 : decode b_L_merge 9 = .ok (.lastore, 1) := by decide +kernel
theorem d_L_merge_10 : decode b_L_merge 10 = .ok (.goto 11, 3) := by decide +kernel
theorem d_L_merge_13 : decode b_L_merge 13 = .ok (.astore 4, 2) := by decide +kernel
theorem d_L_merge_15 : decode b_L_merge 15 = .ok (.iconst 1, 1) := by decide +kernel
theorem d_L_merge_16 : decode b_L_merge 16 = .ok (.ireturn, 1) := by decide +kernel
theorem d_L_merge_17 : decode b_L_merge 17 = .ok (.astore 4, 2) := by decide +kernel
theorem d_L_merge_19 : decode b_L_merge 19 = .ok (.iconst 2, 1) := by decide +kernel
theorem d_L_merge_20 : decode b_L_merge 20 = .ok (.ireturn, 1) := by decide +kernel
theorem d_L_merge_21 : decode b_L_merge 21 = .ok (.iconst 0, 1) := by decide +kernel
theorem d_L_merge_22 : decode b_L_merge 22 = .ok (.ireturn, 1) := by decide +kernel
theorem d_L_settle_0 : decode b_L_settle 0 = .ok (.aload 4, 2) := by decide +kernel
theorem d_L_settle_2 : decode b_L_settle 2 = .ok (.iconst 0, 1) := by decide +kernel
theorem d_L_settle_3 : decode b_L_settle 3 = .ok (.aload_n 0, 1) := by decide +kernel
theorem d_L_settle_4 : decode b_L_settle 4 = .ok (.iload_n 1, 1) := by decide +kernel
theorem d_L_settle_5 : decode b_L_settle 5 = .ok (.iload_n 2, 1) := by decide +kernel
theorem d_L_settle_6 : decode b_L_settle 6 = .ok (.iload_n 3, 1) := by decide +kernel
theorem d_L_settle_7 : decode b_L_settle 7 = .ok (.invokevirtual 43, 3) := by decide +kernel
theorem d_L_settle_10 : decode b_L_settle 10 = .ok (.i2l, 1) := by decide +kernel
theorem d_L_settle_11 : decode b_L_settle 11 = .ok (.lastore, 1) := by decide +kernel
theorem d_L_settle_12 : decode b_L_settle 12 = .ok (.goto 7, 3) := by decide +kernel
theorem d_L_settle_15 : decode b_L_settle 15 = .ok (.astore 5, 2) := by decide +kernel
theorem d_L_settle_17 : decode b_L_settle 17 = .ok (.iconst 1, 1) := by decide +kernel
theorem d_L_settle_18 : decode b_L_settle 18 = .ok (.ireturn, 1) := by decide +kernel
theorem d_L_settle_19 : decode b_L_settle 19 = .ok (.iconst 0, 1) := by decide +kernel
theorem d_L_settle_20 : decode b_L_settle 20 = .ok (.ireturn, 1) := by decide +kernel
theorem d_L_total_0 : decode b_L_total 0 = .ok (.aload 4, 2) := by decide +kernel
theorem d_L_total_2 : decode b_L_total 2 = .ok (.iconst 0, 1) := by decide +kernel
theorem d_L_total_3 : decode b_L_total 3 = .ok (.aload_n 0, 1) := by decide +kernel
theorem d_L_total_4 : decode b_L_total 4 = .ok (.iload_n 1, 1) := by decide +kernel
theorem d_L_total_5 : decode b_L_total 5 = .ok (.iload_n 2, 1) := by decide +kernel
theorem d_L_total_6 : decode b_L_total 6 = .ok (.iload_n 3, 1) := by decide +kernel
theorem d_L_total_7 : decode b_L_total 7 = .ok (.invokevirtual 47, 3) := by decide +kernel
theorem d_L_total_10 : decode b_L_total 10 = .ok (.i2l, 1) := by decide +kernel
theorem d_L_total_11 : decode b_L_total 11 = .ok (.lastore, 1) := by decide +kernel
theorem d_L_total_12 : decode b_L_total 12 = .ok (.goto 7, 3) := by decide +kernel
theorem d_L_total_15 : decode b_L_total 15 = .ok (.astore 5, 2) := by decide +kernel
theorem d_L_total_17 : decode b_L_total 17 = .ok (.iconst 1, 1) := by decide +kernel
theorem d_L_total_18 : decode b_L_total 18 = .ok (.ireturn, 1) := by decide +kernel
theorem d_L_total_19 : decode b_L_total 19 = .ok (.iconst 0, 1) := by decide +kernel
theorem d_L_total_20 : decode b_L_total 20 = .ok (.ireturn, 1) := by decide +kernel
theorem d_L_law_0 : decode b_L_law 0 = .ok (.new 8, 3) := by decide +kernel
theorem d_L_law_3 : decode b_L_law 3 = .ok (.dup, 1) := by decide +kernel
theorem d_L_law_4 : decode b_L_law 4 = .ok (.invokespecial 50, 3) := by decide +kernel
theorem d_L_law_7 : decode b_L_law 7 = .ok (.astore_n 1, 1) := by decide +kernel
theorem d_L_law_8 : decode b_L_law 8 = .ok (.new 51, 3) := by decide +kernel
theorem d_L_law_11 : decode b_L_law 11 = .ok (.dup, 1) := by decide +kernel
theorem d_L_law_12 : decode b_L_law 12 = .ok (.invokespecial 53, 3) := by decide +kernel
theorem d_L_law_15 : decode b_L_law 15 = .ok (.astore_n 2, 1) := by decide +kernel
theorem d_L_law_16 : decode b_L_law 16 = .ok (.iconst 1, 1) := by decide +kernel
theorem d_L_law_17 : decode b_L_law 17 = .ok (.newarray .long, 2) := by decide +kernel
theorem d_L_law_19 : decode b_L_law 19 = .ok (.astore_n 3, 1) := by decide +kernel
theorem d_L_law_20 : decode b_L_law 20 = .ok (.iconst 0, 1) := by decide +kernel
theorem d_L_law_21 : decode b_L_law 21 = .ok (.istore 4, 2) := by decide +kernel
theorem d_L_law_23 : decode b_L_law 23 = .ok (.iload 4, 2) := by decide +kernel
theorem d_L_law_25 : decode b_L_law 25 = .ok (.aload_n 0, 1) := by decide +kernel
theorem d_L_law_26 : decode b_L_law 26 = .ok (.arraylength, 1) := by decide +kernel
theorem d_L_law_27 : decode b_L_law 27 = .ok (.bipush 7, 2) := by decide +kernel
theorem d_L_law_29 : decode b_L_law 29 = .ok (.isub, 1) := by decide +kernel
theorem d_L_law_30 : decode b_L_law 30 = .ok (.if_icmp .gt 1431, 3) := by decide +kernel
theorem d_L_law_33 : decode b_L_law 33 = .ok (.aload_n 0, 1) := by decide +kernel
theorem d_L_law_34 : decode b_L_law 34 = .ok (.iload 4, 2) := by decide +kernel
theorem d_L_law_36 : decode b_L_law 36 = .ok (.iaload, 1) := by decide +kernel
theorem d_L_law_37 : decode b_L_law 37 = .ok (.bipush 31, 2) := by decide +kernel
theorem d_L_law_39 : decode b_L_law 39 = .ok (.iand, 1) := by decide +kernel
theorem d_L_law_40 : decode b_L_law 40 = .ok (.tableswitch 1415 0 22 #[108, 145, 193, 218, 279, 339, 388, 460, 558, 607, 655, 727, 783, 851, 900, 980, 1041, 1114, 1194, 1243, 1304, 1353, 1390], 108) := by decide +kernel
theorem d_L_law_148 : decode b_L_law 148 = .ok (.aload_n 1, 1) := by decide +kernel
theorem d_L_law_149 : decode b_L_law 149 = .ok (.aload_n 0, 1) := by decide +kernel
theorem d_L_law_150 : decode b_L_law 150 = .ok (.iload 4, 2) := by decide +kernel
theorem d_L_law_152 : decode b_L_law 152 = .ok (.iconst 1, 1) := by decide +kernel
theorem d_L_law_153 : decode b_L_law 153 = .ok (.iadd, 1) := by decide +kernel
theorem d_L_law_154 : decode b_L_law 154 = .ok (.iaload, 1) := by decide +kernel
theorem d_L_law_155 : decode b_L_law 155 = .ok (.aload_n 0, 1) := by decide +kernel
theorem d_L_law_156 : decode b_L_law 156 = .ok (.iload 4, 2) := by decide +kernel
theorem d_L_law_158 : decode b_L_law 158 = .ok (.iconst 2, 1) := by decide +kernel
theorem d_L_law_159 : decode b_L_law 159 = .ok (.iadd, 1) := by decide +kernel
theorem d_L_law_160 : decode b_L_law 160 = .ok (.iaload, 1) := by decide +kernel
theorem d_L_law_161 : decode b_L_law 161 = .ok (.invokevirtual 54, 3) := by decide +kernel
theorem d_L_law_164 : decode b_L_law 164 = .ok (.aload_n 2, 1) := by decide +kernel
theorem d_L_law_165 : decode b_L_law 165 = .ok (.aload_n 0, 1) := by decide +kernel
theorem d_L_law_166 : decode b_L_law 166 = .ok (.iload 4, 2) := by decide +kernel
theorem d_L_law_168 : decode b_L_law 168 = .ok (.iconst 1, 1) := by decide +kernel
theorem d_L_law_169 : decode b_L_law 169 = .ok (.iadd, 1) := by decide +kernel
theorem d_L_law_170 : decode b_L_law 170 = .ok (.iaload, 1) := by decide +kernel
theorem d_L_law_171 : decode b_L_law 171 = .ok (.aload_n 0, 1) := by decide +kernel
theorem d_L_law_172 : decode b_L_law 172 = .ok (.iload 4, 2) := by decide +kernel
theorem d_L_law_174 : decode b_L_law 174 = .ok (.iconst 2, 1) := by decide +kernel
theorem d_L_law_175 : decode b_L_law 175 = .ok (.iadd, 1) := by decide +kernel
theorem d_L_law_176 : decode b_L_law 176 = .ok (.iaload, 1) := by decide +kernel
theorem d_L_law_177 : decode b_L_law 177 = .ok (.invokevirtual 58, 3) := by decide +kernel
theorem d_L_law_180 : decode b_L_law 180 = .ok (.if_icmp .eq 1275, 3) := by decide +kernel
theorem d_L_law_183 : decode b_L_law 183 = .ok (.iconst 0, 1) := by decide +kernel
theorem d_L_law_184 : decode b_L_law 184 = .ok (.ireturn, 1) := by decide +kernel
theorem d_L_law_185 : decode b_L_law 185 = .ok (.aload_n 1, 1) := by decide +kernel
theorem d_L_law_186 : decode b_L_law 186 = .ok (.aload_n 0, 1) := by decide +kernel
theorem d_L_law_187 : decode b_L_law 187 = .ok (.iload 4, 2) := by decide +kernel
theorem d_L_law_189 : decode b_L_law 189 = .ok (.iconst 1, 1) := by decide +kernel
theorem d_L_law_190 : decode b_L_law 190 = .ok (.iadd, 1) := by decide +kernel
theorem d_L_law_191 : decode b_L_law 191 = .ok (.iaload, 1) := by decide +kernel
theorem d_L_law_192 : decode b_L_law 192 = .ok (.aload_n 0, 1) := by decide +kernel
theorem d_L_law_193 : decode b_L_law 193 = .ok (.iload 4, 2) := by decide +kernel
theorem d_L_law_195 : decode b_L_law 195 = .ok (.iconst 2, 1) := by decide +kernel
theorem d_L_law_196 : decode b_L_law 196 = .ok (.iadd, 1) := by decide +kernel
theorem d_L_law_197 : decode b_L_law 197 = .ok (.iaload, 1) := by decide +kernel
theorem d_L_law_198 : decode b_L_law 198 = .ok (.invokestatic 59, 3) := by decide +kernel
theorem d_L_law_201 : decode b_L_law 201 = .ok (.istore 5, 2) := by decide +kernel
theorem d_L_law_203 : decode b_L_law 203 = .ok (.aload_n 2, 1) := by decide +kernel
theorem d_L_law_204 : decode b_L_law 204 = .ok (.aload_n 0, 1) := by decide +kernel
theorem d_L_law_205 : decode b_L_law 205 = .ok (.iload 4, 2) := by decide +kernel
theorem d_L_law_207 : decode b_L_law 207 = .ok (.iconst 1, 1) := by decide +kernel
theorem d_L_law_208 : decode b_L_law 208 = .ok (.iadd, 1) := by decide +kernel
theorem d_L_law_209 : decode b_L_law 209 = .ok (.iaload, 1) := by decide +kernel
theorem d_L_law_210 : decode b_L_law 210 = .ok (.aload_n 0, 1) := by decide +kernel
theorem d_L_law_211 : decode b_L_law 211 = .ok (.iload 4, 2) := by decide +kernel
theorem d_L_law_213 : decode b_L_law 213 = .ok (.iconst 2, 1) := by decide +kernel
theorem d_L_law_214 : decode b_L_law 214 = .ok (.iadd, 1) := by decide +kernel
theorem d_L_law_215 : decode b_L_law 215 = .ok (.iaload, 1) := by decide +kernel
theorem d_L_law_216 : decode b_L_law 216 = .ok (.invokevirtual 64, 3) := by decide +kernel
theorem d_L_law_219 : decode b_L_law 219 = .ok (.aload_n 2, 1) := by decide +kernel
theorem d_L_law_220 : decode b_L_law 220 = .ok (.invokevirtual 65, 3) := by decide +kernel
theorem d_L_law_223 : decode b_L_law 223 = .ok (.iload 5, 2) := by decide +kernel
theorem d_L_law_225 : decode b_L_law 225 = .ok (.if_icmp .eq 5, 3) := by decide +kernel
theorem d_L_law_228 : decode b_L_law 228 = .ok (.iconst 0, 1) := by decide +kernel
theorem d_L_law_229 : decode b_L_law 229 = .ok (.ireturn, 1) := by decide +kernel
theorem d_L_law_230 : decode b_L_law 230 = .ok (.goto 1225, 3) := by decide +kernel
theorem d_L_law_233 : decode b_L_law 233 = .ok (.aload_n 1, 1) := by decide +kernel
theorem d_L_law_234 : decode b_L_law 234 = .ok (.aload_n 0, 1) := by decide +kernel
theorem d_L_law_235 : decode b_L_law 235 = .ok (.iload 4, 2) := by decide +kernel
theorem d_L_law_237 : decode b_L_law 237 = .ok (.iconst 1, 1) := by decide +kernel
theorem d_L_law_238 : decode b_L_law 238 = .ok (.iadd, 1) := by decide +kernel
theorem d_L_law_239 : decode b_L_law 239 = .ok (.iaload, 1) := by decide +kernel
theorem d_L_law_240 : decode b_L_law 240 = .ok (.invokevirtual 69, 3) := by decide +kernel
theorem d_L_law_243 : decode b_L_law 243 = .ok (.aload_n 2, 1) := by decide +kernel
theorem d_L_law_244 : decode b_L_law 244 = .ok (.aload_n 0, 1) := by decide +kernel
theorem d_L_law_245 : decode b_L_law 245 = .ok (.iload 4, 2) := by decide +kernel
theorem d_L_law_247 : decode b_L_law 247 = .ok (.iconst 1, 1) := by decide +kernel
theorem d_L_law_248 : decode b_L_law 248 = .ok (.iadd, 1) := by decide +kernel
theorem d_L_law_249 : decode b_L_law 249 = .ok (.iaload, 1) := by decide +kernel
theorem d_L_law_250 : decode b_L_law 250 = .ok (.invokevirtual 73, 3) := by decide +kernel
theorem d_L_law_253 : decode b_L_law 253 = .ok (.if_icmp .eq 1202, 3) := by decide +kernel
theorem d_L_law_256 : decode b_L_law 256 = .ok (.iconst 0, 1) := by decide +kernel
theorem d_L_law_257 : decode b_L_law 257 = .ok (.ireturn, 1) := by decide +kernel
theorem d_L_law_258 : decode b_L_law 258 = .ok (.aload_n 1, 1) := by decide +kernel
theorem d_L_law_259 : decode b_L_law 259 = .ok (.aload_n 0, 1) := by decide +kernel
theorem d_L_law_260 : decode b_L_law 260 = .ok (.iload 4, 2) := by decide +kernel
theorem d_L_law_262 : decode b_L_law 262 = .ok (.iconst 1, 1) := by decide +kernel
theorem d_L_law_263 : decode b_L_law 263 = .ok (.iadd, 1) := by decide +kernel
theorem d_L_law_264 : decode b_L_law 264 = .ok (.iaload, 1) := by decide +kernel
theorem d_L_law_265 : decode b_L_law 265 = .ok (.aload_n 0, 1) := by decide +kernel
theorem d_L_law_266 : decode b_L_law 266 = .ok (.iload 4, 2) := by decide +kernel
theorem d_L_law_268 : decode b_L_law 268 = .ok (.iconst 2, 1) := by decide +kernel
theorem d_L_law_269 : decode b_L_law 269 = .ok (.iadd, 1) := by decide +kernel
theorem d_L_law_270 : decode b_L_law 270 = .ok (.iaload, 1) := by decide +kernel
theorem d_L_law_271 : decode b_L_law 271 = .ok (.aload_n 0, 1) := by decide +kernel
theorem d_L_law_272 : decode b_L_law 272 = .ok (.iload 4, 2) := by decide +kernel
theorem d_L_law_274 : decode b_L_law 274 = .ok (.iconst 3, 1) := by decide +kernel
theorem d_L_law_275 : decode b_L_law 275 = .ok (.iadd, 1) := by decide +kernel
theorem d_L_law_276 : decode b_L_law 276 = .ok (.iaload, 1) := by decide +kernel
theorem d_L_law_277 : decode b_L_law 277 = .ok (.aload_n 0, 1) := by decide +kernel
theorem d_L_law_278 : decode b_L_law 278 = .ok (.iload 4, 2) := by decide +kernel
theorem d_L_law_280 : decode b_L_law 280 = .ok (.iconst 4, 1) := by decide +kernel
theorem d_L_law_281 : decode b_L_law 281 = .ok (.iadd, 1) := by decide +kernel
theorem d_L_law_282 : decode b_L_law 282 = .ok (.iaload, 1) := by decide +kernel
theorem d_L_law_283 : decode b_L_law 283 = .ok (.invokevirtual 74, 3) := by decide +kernel
theorem d_L_law_286 : decode b_L_law 286 = .ok (.aload_n 2, 1) := by decide +kernel
theorem d_L_law_287 : decode b_L_law 287 = .ok (.aload_n 0, 1) := by decide +kernel
theorem d_L_law_288 : decode b_L_law 288 = .ok (.iload 4, 2) := by decide +kernel
theorem d_L_law_290 : decode b_L_law 290 = .ok (.iconst 1, 1) := by decide +kernel
theorem d_L_law_291 : decode b_L_law 291 = .ok (.iadd, 1) := by decide +kernel
theorem d_L_law_292 : decode b_L_law 292 = .ok (.iaload, 1) := by decide +kernel
theorem d_L_law_293 : decode b_L_law 293 = .ok (.aload_n 0, 1) := by decide +kernel
theorem d_L_law_294 : decode b_L_law 294 = .ok (.iload 4, 2) := by decide +kernel
theorem d_L_law_296 : decode b_L_law 296 = .ok (.iconst 2, 1) := by decide +kernel
theorem d_L_law_297 : decode b_L_law 297 = .ok (.iadd, 1) := by decide +kernel
theorem d_L_law_298 : decode b_L_law 298 = .ok (.iaload, 1) := by decide +kernel
theorem d_L_law_299 : decode b_L_law 299 = .ok (.aload_n 0, 1) := by decide +kernel
theorem d_L_law_300 : decode b_L_law 300 = .ok (.iload 4, 2) := by decide +kernel
theorem d_L_law_302 : decode b_L_law 302 = .ok (.iconst 3, 1) := by decide +kernel
theorem d_L_law_303 : decode b_L_law 303 = .ok (.iadd, 1) := by decide +kernel
theorem d_L_law_304 : decode b_L_law 304 = .ok (.iaload, 1) := by decide +kernel
theorem d_L_law_305 : decode b_L_law 305 = .ok (.aload_n 0, 1) := by decide +kernel
theorem d_L_law_306 : decode b_L_law 306 = .ok (.iload 4, 2) := by decide +kernel
theorem d_L_law_308 : decode b_L_law 308 = .ok (.iconst 4, 1) := by decide +kernel
theorem d_L_law_309 : decode b_L_law 309 = .ok (.iadd, 1) := by decide +kernel
theorem d_L_law_310 : decode b_L_law 310 = .ok (.iaload, 1) := by decide +kernel
theorem d_L_law_311 : decode b_L_law 311 = .ok (.invokevirtual 78, 3) := by decide +kernel
theorem d_L_law_314 : decode b_L_law 314 = .ok (.if_icmp .eq 1141, 3) := by decide +kernel
theorem d_L_law_317 : decode b_L_law 317 = .ok (.iconst 0, 1) := by decide +kernel
theorem d_L_law_318 : decode b_L_law 318 = .ok (.ireturn, 1) := by decide +kernel
theorem d_L_law_319 : decode b_L_law 319 = .ok (.aload_n 1, 1) := by decide +kernel
theorem d_L_law_320 : decode b_L_law 320 = .ok (.aload_n 0, 1) := by decide +kernel
theorem d_L_law_321 : decode b_L_law 321 = .ok (.iload 4, 2) := by decide +kernel
theorem d_L_law_323 : decode b_L_law 323 = .ok (.iconst 1, 1) := by decide +kernel
theorem d_L_law_324 : decode b_L_law 324 = .ok (.iadd, 1) := by decide +kernel
theorem d_L_law_325 : decode b_L_law 325 = .ok (.iaload, 1) := by decide +kernel
theorem d_L_law_326 : decode b_L_law 326 = .ok (.aload_n 0, 1) := by decide +kernel
theorem d_L_law_327 : decode b_L_law 327 = .ok (.iload 4, 2) := by decide +kernel
theorem d_L_law_329 : decode b_L_law 329 = .ok (.iconst 2, 1) := by decide +kernel
theorem d_L_law_330 : decode b_L_law 330 = .ok (.iadd, 1) := by decide +kernel
theorem d_L_law_331 : decode b_L_law 331 = .ok (.iaload, 1) := by decide +kernel
theorem d_L_law_332 : decode b_L_law 332 = .ok (.aload_n 0, 1) := by decide +kernel
theorem d_L_law_333 : decode b_L_law 333 = .ok (.iload 4, 2) := by decide +kernel
theorem d_L_law_335 : decode b_L_law 335 = .ok (.iconst 3, 1) := by decide +kernel
theorem d_L_law_336 : decode b_L_law 336 = .ok (.iadd, 1) := by decide +kernel
theorem d_L_law_337 : decode b_L_law 337 = .ok (.iaload, 1) := by decide +kernel
theorem d_L_law_338 : decode b_L_law 338 = .ok (.invokestatic 79, 3) := by decide +kernel
theorem d_L_law_341 : decode b_L_law 341 = .ok (.istore 5, 2) := by decide +kernel
theorem d_L_law_343 : decode b_L_law 343 = .ok (.aload_n 2, 1) := by decide +kernel
theorem d_L_law_344 : decode b_L_law 344 = .ok (.aload_n 0, 1) := by decide +kernel
theorem d_L_law_345 : decode b_L_law 345 = .ok (.iload 4, 2) := by decide +kernel
theorem d_L_law_347 : decode b_L_law 347 = .ok (.iconst 1, 1) := by decide +kernel
theorem d_L_law_348 : decode b_L_law 348 = .ok (.iadd, 1) := by decide +kernel
theorem d_L_law_349 : decode b_L_law 349 = .ok (.iaload, 1) := by decide +kernel
theorem d_L_law_350 : decode b_L_law 350 = .ok (.aload_n 0, 1) := by decide +kernel
theorem d_L_law_351 : decode b_L_law 351 = .ok (.iload 4, 2) := by decide +kernel
theorem d_L_law_353 : decode b_L_law 353 = .ok (.iconst 2, 1) := by decide +kernel
theorem d_L_law_354 : decode b_L_law 354 = .ok (.iadd, 1) := by decide +kernel
theorem d_L_law_355 : decode b_L_law 355 = .ok (.iaload, 1) := by decide +kernel
theorem d_L_law_356 : decode b_L_law 356 = .ok (.aload_n 0, 1) := by decide +kernel
theorem d_L_law_357 : decode b_L_law 357 = .ok (.iload 4, 2) := by decide +kernel
theorem d_L_law_359 : decode b_L_law 359 = .ok (.iconst 3, 1) := by decide +kernel
theorem d_L_law_360 : decode b_L_law 360 = .ok (.iadd, 1) := by decide +kernel
theorem d_L_law_361 : decode b_L_law 361 = .ok (.iaload, 1) := by decide +kernel
theorem d_L_law_362 : decode b_L_law 362 = .ok (.invokevirtual 82, 3) := by decide +kernel
theorem d_L_law_365 : decode b_L_law 365 = .ok (.aload_n 2, 1) := by decide +kernel
theorem d_L_law_366 : decode b_L_law 366 = .ok (.invokevirtual 65, 3) := by decide +kernel
theorem d_L_law_369 : decode b_L_law 369 = .ok (.iload 5, 2) := by decide +kernel
theorem d_L_law_371 : decode b_L_law 371 = .ok (.if_icmp .eq 5, 3) := by decide +kernel
theorem d_L_law_374 : decode b_L_law 374 = .ok (.iconst 0, 1) := by decide +kernel
theorem d_L_law_375 : decode b_L_law 375 = .ok (.ireturn, 1) := by decide +kernel
theorem d_L_law_376 : decode b_L_law 376 = .ok (.goto 1079, 3) := by decide +kernel
theorem d_L_law_379 : decode b_L_law 379 = .ok (.aload_n 1, 1) := by decide +kernel
theorem d_L_law_380 : decode b_L_law 380 = .ok (.aload_n 0, 1) := by decide +kernel
theorem d_L_law_381 : decode b_L_law 381 = .ok (.iload 4, 2) := by decide +kernel
theorem d_L_law_383 : decode b_L_law 383 = .ok (.iconst 1, 1) := by decide +kernel
theorem d_L_law_384 : decode b_L_law 384 = .ok (.iadd, 1) := by decide +kernel
theorem d_L_law_385 : decode b_L_law 385 = .ok (.iaload, 1) := by decide +kernel
theorem d_L_law_386 : decode b_L_law 386 = .ok (.aload_n 0, 1) := by decide +kernel
theorem d_L_law_387 : decode b_L_law 387 = .ok (.iload 4, 2) := by decide +kernel
theorem d_L_law_389 : decode b_L_law 389 = .ok (.iconst 2, 1) := by decide +kernel
theorem d_L_law_390 : decode b_L_law 390 = .ok (.iadd, 1) := by decide +kernel
theorem d_L_law_391 : decode b_L_law 391 = .ok (.iaload, 1) := by decide +kernel
theorem d_L_law_392 : decode b_L_law 392 = .ok (.aload_n 0, 1) := by decide +kernel
theorem d_L_law_393 : decode b_L_law 393 = .ok (.iload 4, 2) := by decide +kernel
theorem d_L_law_395 : decode b_L_law 395 = .ok (.iconst 3, 1) := by decide +kernel
theorem d_L_law_396 : decode b_L_law 396 = .ok (.iadd, 1) := by decide +kernel
theorem d_L_law_397 : decode b_L_law 397 = .ok (.iaload, 1) := by decide +kernel
theorem d_L_law_398 : decode b_L_law 398 = .ok (.invokevirtual 83, 3) := by decide +kernel
theorem d_L_law_401 : decode b_L_law 401 = .ok (.aload_n 2, 1) := by decide +kernel
theorem d_L_law_402 : decode b_L_law 402 = .ok (.aload_n 0, 1) := by decide +kernel
theorem d_L_law_403 : decode b_L_law 403 = .ok (.iload 4, 2) := by decide +kernel
theorem d_L_law_405 : decode b_L_law 405 = .ok (.iconst 1, 1) := by decide +kernel
theorem d_L_law_406 : decode b_L_law 406 = .ok (.iadd, 1) := by decide +kernel
theorem d_L_law_407 : decode b_L_law 407 = .ok (.iaload, 1) := by decide +kernel
theorem d_L_law_408 : decode b_L_law 408 = .ok (.aload_n 0, 1) := by decide +kernel
theorem d_L_law_409 : decode b_L_law 409 = .ok (.iload 4, 2) := by decide +kernel
theorem d_L_law_411 : decode b_L_law 411 = .ok (.iconst 2, 1) := by decide +kernel
theorem d_L_law_412 : decode b_L_law 412 = .ok (.iadd, 1) := by decide +kernel
theorem d_L_law_413 : decode b_L_law 413 = .ok (.iaload, 1) := by decide +kernel
theorem d_L_law_414 : decode b_L_law 414 = .ok (.aload_n 0, 1) := by decide +kernel
theorem d_L_law_415 : decode b_L_law 415 = .ok (.iload 4, 2) := by decide +kernel
theorem d_L_law_417 : decode b_L_law 417 = .ok (.iconst 3, 1) := by decide +kernel
theorem d_L_law_418 : decode b_L_law 418 = .ok (.iadd, 1) := by decide +kernel
theorem d_L_law_419 : decode b_L_law 419 = .ok (.iaload, 1) := by decide +kernel
theorem d_L_law_420 : decode b_L_law 420 = .ok (.invokevirtual 87, 3) := by decide +kernel
theorem d_L_law_423 : decode b_L_law 423 = .ok (.if_icmp .eq 1032, 3) := by decide +kernel
theorem d_L_law_426 : decode b_L_law 426 = .ok (.iconst 0, 1) := by decide +kernel
theorem d_L_law_427 : decode b_L_law 427 = .ok (.ireturn, 1) := by decide +kernel
theorem d_L_law_428 : decode b_L_law 428 = .ok (.aload_n 1, 1) := by decide +kernel
theorem d_L_law_429 : decode b_L_law 429 = .ok (.aload_n 0, 1) := by decide +kernel
theorem d_L_law_430 : decode b_L_law 430 = .ok (.iload 4, 2) := by decide +kernel
theorem d_L_law_432 : decode b_L_law 432 = .ok (.iconst 1, 1) := by decide +kernel
theorem d_L_law_433 : decode b_L_law 433 = .ok (.iadd, 1) := by decide +kernel
theorem d_L_law_434 : decode b_L_law 434 = .ok (.iaload, 1) := by decide +kernel
theorem d_L_law_435 : decode b_L_law 435 = .ok (.aload_n 0, 1) := by decide +kernel
theorem d_L_law_436 : decode b_L_law 436 = .ok (.iload 4, 2) := by decide +kernel
theorem d_L_law_438 : decode b_L_law 438 = .ok (.iconst 2, 1) := by decide +kernel
theorem d_L_law_439 : decode b_L_law 439 = .ok (.iadd, 1) := by decide +kernel
theorem d_L_law_440 : decode b_L_law 440 = .ok (.iaload, 1) := by decide +kernel
theorem d_L_law_441 : decode b_L_law 441 = .ok (.aload_n 0, 1) := by decide +kernel
theorem d_L_law_442 : decode b_L_law 442 = .ok (.iload 4, 2) := by decide +kernel
theorem d_L_law_444 : decode b_L_law 444 = .ok (.iconst 3, 1) := by decide +kernel
theorem d_L_law_445 : decode b_L_law 445 = .ok (.iadd, 1) := by decide +kernel
theorem d_L_law_446 : decode b_L_law 446 = .ok (.iaload, 1) := by decide +kernel
theorem d_L_law_447 : decode b_L_law 447 = .ok (.aload_n 0, 1) := by decide +kernel
theorem d_L_law_448 : decode b_L_law 448 = .ok (.iload 4, 2) := by decide +kernel
theorem d_L_law_450 : decode b_L_law 450 = .ok (.iconst 4, 1) := by decide +kernel
theorem d_L_law_451 : decode b_L_law 451 = .ok (.iadd, 1) := by decide +kernel
theorem d_L_law_452 : decode b_L_law 452 = .ok (.iaload, 1) := by decide +kernel
theorem d_L_law_453 : decode b_L_law 453 = .ok (.invokestatic 88, 3) := by decide +kernel
theorem d_L_law_456 : decode b_L_law 456 = .ok (.istore 5, 2) := by decide +kernel
theorem d_L_law_458 : decode b_L_law 458 = .ok (.aload_n 2, 1) := by decide +kernel
theorem d_L_law_459 : decode b_L_law 459 = .ok (.aload_n 0, 1) := by decide +kernel
theorem d_L_law_460 : decode b_L_law 460 = .ok (.iload 4, 2) := by decide +kernel
theorem d_L_law_462 : decode b_L_law 462 = .ok (.iconst 1, 1) := by decide +kernel
theorem d_L_law_463 : decode b_L_law 463 = .ok (.iadd, 1) := by decide +kernel
theorem d_L_law_464 : decode b_L_law 464 = .ok (.iaload, 1) := by decide +kernel
theorem d_L_law_465 : decode b_L_law 465 = .ok (.aload_n 0, 1) := by decide +kernel
theorem d_L_law_466 : decode b_L_law 466 = .ok (.iload 4, 2) := by decide +kernel
theorem d_L_law_468 : decode b_L_law 468 = .ok (.iconst 2, 1) := by decide +kernel
theorem d_L_law_469 : decode b_L_law 469 = .ok (.iadd, 1) := by decide +kernel
theorem d_L_law_470 : decode b_L_law 470 = .ok (.iaload, 1) := by decide +kernel
theorem d_L_law_471 : decode b_L_law 471 = .ok (.aload_n 0, 1) := by decide +kernel
theorem d_L_law_472 : decode b_L_law 472 = .ok (.iload 4, 2) := by decide +kernel
theorem d_L_law_474 : decode b_L_law 474 = .ok (.iconst 3, 1) := by decide +kernel
theorem d_L_law_475 : decode b_L_law 475 = .ok (.iadd, 1) := by decide +kernel
theorem d_L_law_476 : decode b_L_law 476 = .ok (.iaload, 1) := by decide +kernel
theorem d_L_law_477 : decode b_L_law 477 = .ok (.aload_n 0, 1) := by decide +kernel
theorem d_L_law_478 : decode b_L_law 478 = .ok (.iload 4, 2) := by decide +kernel
theorem d_L_law_480 : decode b_L_law 480 = .ok (.iconst 4, 1) := by decide +kernel
theorem d_L_law_481 : decode b_L_law 481 = .ok (.iadd, 1) := by decide +kernel
theorem d_L_law_482 : decode b_L_law 482 = .ok (.iaload, 1) := by decide +kernel
theorem d_L_law_483 : decode b_L_law 483 = .ok (.invokevirtual 91, 3) := by decide +kernel
theorem d_L_law_486 : decode b_L_law 486 = .ok (.aload_n 2, 1) := by decide +kernel
theorem d_L_law_487 : decode b_L_law 487 = .ok (.invokevirtual 65, 3) := by decide +kernel
theorem d_L_law_490 : decode b_L_law 490 = .ok (.iload 5, 2) := by decide +kernel
theorem d_L_law_492 : decode b_L_law 492 = .ok (.if_icmp .eq 5, 3) := by decide +kernel
theorem d_L_law_495 : decode b_L_law 495 = .ok (.iconst 0, 1) := by decide +kernel
theorem d_L_law_496 : decode b_L_law 496 = .ok (.ireturn, 1) := by decide +kernel
theorem d_L_law_497 : decode b_L_law 497 = .ok (.goto 958, 3) := by decide +kernel
theorem d_L_law_500 : decode b_L_law 500 = .ok (.aload_n 1, 1) := by decide +kernel
theorem d_L_law_501 : decode b_L_law 501 = .ok (.aload_n 0, 1) := by decide +kernel
theorem d_L_law_502 : decode b_L_law 502 = .ok (.iload 4, 2) := by decide +kernel
theorem d_L_law_504 : decode b_L_law 504 = .ok (.iconst 1, 1) := by decide +kernel
theorem d_L_law_505 : decode b_L_law 505 = .ok (.iadd, 1) := by decide +kernel
theorem d_L_law_506 : decode b_L_law 506 = .ok (.iaload, 1) := by decide +kernel
theorem d_L_law_507 : decode b_L_law 507 = .ok (.aload_n 0, 1) := by decide +kernel
theorem d_L_law_508 : decode b_L_law 508 = .ok (.iload 4, 2) := by decide +kernel
theorem d_L_law_510 : decode b_L_law 510 = .ok (.iconst 2, 1) := by decide +kernel
theorem d_L_law_511 : decode b_L_law 511 = .ok (.iadd, 1) := by decide +kernel
theorem d_L_law_512 : decode b_L_law 512 = .ok (.iaload, 1) := by decide +kernel
theorem d_L_law_513 : decode b_L_law 513 = .ok (.aload_n 0, 1) := by decide +kernel
theorem d_L_law_514 : decode b_L_law 514 = .ok (.iload 4, 2) := by decide +kernel
theorem d_L_law_516 : decode b_L_law 516 = .ok (.iconst 3, 1) := by decide +kernel
theorem d_L_law_517 : decode b_L_law 517 = .ok (.iadd, 1) := by decide +kernel
theorem d_L_law_518 : decode b_L_law 518 = .ok (.iaload, 1) := by decide +kernel
theorem d_L_law_519 : decode b_L_law 519 = .ok (.aload_n 0, 1) := by decide +kernel
theorem d_L_law_520 : decode b_L_law 520 = .ok (.iload 4, 2) := by decide +kernel
theorem d_L_law_522 : decode b_L_law 522 = .ok (.iconst 4, 1) := by decide +kernel
theorem d_L_law_523 : decode b_L_law 523 = .ok (.iadd, 1) := by decide +kernel
theorem d_L_law_524 : decode b_L_law 524 = .ok (.iaload, 1) := by decide +kernel
theorem d_L_law_525 : decode b_L_law 525 = .ok (.aload_n 0, 1) := by decide +kernel
theorem d_L_law_526 : decode b_L_law 526 = .ok (.iload 4, 2) := by decide +kernel
theorem d_L_law_528 : decode b_L_law 528 = .ok (.iconst 5, 1) := by decide +kernel
theorem d_L_law_529 : decode b_L_law 529 = .ok (.iadd, 1) := by decide +kernel
theorem d_L_law_530 : decode b_L_law 530 = .ok (.iaload, 1) := by decide +kernel
theorem d_L_law_531 : decode b_L_law 531 = .ok (.aload_n 0, 1) := by decide +kernel
theorem d_L_law_532 : decode b_L_law 532 = .ok (.iload 4, 2) := by decide +kernel
theorem d_L_law_534 : decode b_L_law 534 = .ok (.bipush 6, 2) := by decide +kernel
theorem d_L_law_536 : decode b_L_law 536 = .ok (.iadd, 1) := by decide +kernel
theorem d_L_law_537 : decode b_L_law 537 = .ok (.iaload, 1) := by decide +kernel
theorem d_L_law_538 : decode b_L_law 538 = .ok (.invokestatic 92, 3) := by decide +kernel
theorem d_L_law_541 : decode b_L_law 541 = .ok (.istore 5, 2) := by decide +kernel
theorem d_L_law_543 : decode b_L_law 543 = .ok (.aload_n 2, 1) := by decide +kernel
theorem d_L_law_544 : decode b_L_law 544 = .ok (.aload_n 0, 1) := by decide +kernel
theorem d_L_law_545 : decode b_L_law 545 = .ok (.iload 4, 2) := by decide +kernel
theorem d_L_law_547 : decode b_L_law 547 = .ok (.iconst 1, 1) := by decide +kernel
theorem d_L_law_548 : decode b_L_law 548 = .ok (.iadd, 1) := by decide +kernel
theorem d_L_law_549 : decode b_L_law 549 = .ok (.iaload, 1) := by decide +kernel
theorem d_L_law_550 : decode b_L_law 550 = .ok (.aload_n 0, 1) := by decide +kernel
theorem d_L_law_551 : decode b_L_law 551 = .ok (.iload 4, 2) := by decide +kernel
theorem d_L_law_553 : decode b_L_law 553 = .ok (.iconst 2, 1) := by decide +kernel
theorem d_L_law_554 : decode b_L_law 554 = .ok (.iadd, 1) := by decide +kernel
theorem d_L_law_555 : decode b_L_law 555 = .ok (.iaload, 1) := by decide +kernel
theorem d_L_law_556 : decode b_L_law 556 = .ok (.aload_n 0, 1) := by decide +kernel
theorem d_L_law_557 : decode b_L_law 557 = .ok (.iload 4, 2) := by decide +kernel
theorem d_L_law_559 : decode b_L_law 559 = .ok (.iconst 3, 1) := by decide +kernel
theorem d_L_law_560 : decode b_L_law 560 = .ok (.iadd, 1) := by decide +kernel
theorem d_L_law_561 : decode b_L_law 561 = .ok (.iaload, 1) := by decide +kernel
theorem d_L_law_562 : decode b_L_law 562 = .ok (.aload_n 0, 1) := by decide +kernel
theorem d_L_law_563 : decode b_L_law 563 = .ok (.iload 4, 2) := by decide +kernel
theorem d_L_law_565 : decode b_L_law 565 = .ok (.iconst 4, 1) := by decide +kernel
theorem d_L_law_566 : decode b_L_law 566 = .ok (.iadd, 1) := by decide +kernel
theorem d_L_law_567 : decode b_L_law 567 = .ok (.iaload, 1) := by decide +kernel
theorem d_L_law_568 : decode b_L_law 568 = .ok (.aload_n 0, 1) := by decide +kernel
theorem d_L_law_569 : decode b_L_law 569 = .ok (.iload 4, 2) := by decide +kernel
theorem d_L_law_571 : decode b_L_law 571 = .ok (.iconst 5, 1) := by decide +kernel
theorem d_L_law_572 : decode b_L_law 572 = .ok (.iadd, 1) := by decide +kernel
theorem d_L_law_573 : decode b_L_law 573 = .ok (.iaload, 1) := by decide +kernel
theorem d_L_law_574 : decode b_L_law 574 = .ok (.aload_n 0, 1) := by decide +kernel
theorem d_L_law_575 : decode b_L_law 575 = .ok (.iload 4, 2) := by decide +kernel
theorem d_L_law_577 : decode b_L_law 577 = .ok (.bipush 6, 2) := by decide +kernel
theorem d_L_law_579 : decode b_L_law 579 = .ok (.iadd, 1) := by decide +kernel
theorem d_L_law_580 : decode b_L_law 580 = .ok (.iaload, 1) := by decide +kernel
theorem d_L_law_581 : decode b_L_law 581 = .ok (.invokevirtual 95, 3) := by decide +kernel
theorem d_L_law_584 : decode b_L_law 584 = .ok (.aload_n 2, 1) := by decide +kernel
theorem d_L_law_585 : decode b_L_law 585 = .ok (.invokevirtual 65, 3) := by decide +kernel
theorem d_L_law_588 : decode b_L_law 588 = .ok (.iload 5, 2) := by decide +kernel
theorem d_L_law_590 : decode b_L_law 590 = .ok (.if_icmp .eq 5, 3) := by decide +kernel
theorem d_L_law_593 : decode b_L_law 593 = .ok (.iconst 0, 1) := by decide +kernel
theorem d_L_law_594 : decode b_L_law 594 = .ok (.ireturn, 1) := by decide +kernel
theorem d_L_law_595 : decode b_L_law 595 = .ok (.goto 860, 3) := by decide +kernel
theorem d_L_law_598 : decode b_L_law 598 = .ok (.aload_n 1, 1) := by decide +kernel
theorem d_L_law_599 : decode b_L_law 599 = .ok (.aload_n 0, 1) := by decide +kernel
theorem d_L_law_600 : decode b_L_law 600 = .ok (.iload 4, 2) := by decide +kernel
theorem d_L_law_602 : decode b_L_law 602 = .ok (.iconst 1, 1) := by decide +kernel
theorem d_L_law_603 : decode b_L_law 603 = .ok (.iadd, 1) := by decide +kernel
theorem d_L_law_604 : decode b_L_law 604 = .ok (.iaload, 1) := by decide +kernel
theorem d_L_law_605 : decode b_L_law 605 = .ok (.aload_n 0, 1) := by decide +kernel
theorem d_L_law_606 : decode b_L_law 606 = .ok (.iload 4, 2) := by decide +kernel
theorem d_L_law_608 : decode b_L_law 608 = .ok (.iconst 2, 1) := by decide +kernel
theorem d_L_law_609 : decode b_L_law 609 = .ok (.iadd, 1) := by decide +kernel
theorem d_L_law_610 : decode b_L_law 610 = .ok (.iaload, 1) := by decide +kernel
theorem d_L_law_611 : decode b_L_law 611 = .ok (.aload_n 0, 1) := by decide +kernel
theorem d_L_law_612 : decode b_L_law 612 = .ok (.iload 4, 2) := by decide +kernel
theorem d_L_law_614 : decode b_L_law 614 = .ok (.iconst 3, 1) := by decide +kernel
theorem d_L_law_615 : decode b_L_law 615 = .ok (.iadd, 1) := by decide +kernel
theorem d_L_law_616 : decode b_L_law 616 = .ok (.iaload, 1) := by decide +kernel
theorem d_L_law_617 : decode b_L_law 617 = .ok (.invokevirtual 96, 3) := by decide +kernel
theorem d_L_law_620 : decode b_L_law 620 = .ok (.aload_n 2, 1) := by decide +kernel
theorem d_L_law_621 : decode b_L_law 621 = .ok (.aload_n 0, 1) := by decide +kernel
theorem d_L_law_622 : decode b_L_law 622 = .ok (.iload 4, 2) := by decide +kernel
theorem d_L_law_624 : decode b_L_law 624 = .ok (.iconst 1, 1) := by decide +kernel
theorem d_L_law_625 : decode b_L_law 625 = .ok (.iadd, 1) := by decide +kernel
theorem d_L_law_626 : decode b_L_law 626 = .ok (.iaload, 1) := by decide +kernel
theorem d_L_law_627 : decode b_L_law 627 = .ok (.aload_n 0, 1) := by decide +kernel
theorem d_L_law_628 : decode b_L_law 628 = .ok (.iload 4, 2) := by decide +kernel
theorem d_L_law_630 : decode b_L_law 630 = .ok (.iconst 2, 1) := by decide +kernel
theorem d_L_law_631 : decode b_L_law 631 = .ok (.iadd, 1) := by decide +kernel
theorem d_L_law_632 : decode b_L_law 632 = .ok (.iaload, 1) := by decide +kernel
theorem d_L_law_633 : decode b_L_law 633 = .ok (.aload_n 0, 1) := by decide +kernel
theorem d_L_law_634 : decode b_L_law 634 = .ok (.iload 4, 2) := by decide +kernel
theorem d_L_law_636 : decode b_L_law 636 = .ok (.iconst 3, 1) := by decide +kernel
theorem d_L_law_637 : decode b_L_law 637 = .ok (.iadd, 1) := by decide +kernel
theorem d_L_law_638 : decode b_L_law 638 = .ok (.iaload, 1) := by decide +kernel
theorem d_L_law_639 : decode b_L_law 639 = .ok (.invokevirtual 99, 3) := by decide +kernel
theorem d_L_law_642 : decode b_L_law 642 = .ok (.if_icmp .eq 813, 3) := by decide +kernel
theorem d_L_law_645 : decode b_L_law 645 = .ok (.iconst 0, 1) := by decide +kernel
theorem d_L_law_646 : decode b_L_law 646 = .ok (.ireturn, 1) := by decide +kernel
theorem d_L_law_647 : decode b_L_law 647 = .ok (.aload_n 1, 1) := by decide +kernel
theorem d_L_law_648 : decode b_L_law 648 = .ok (.aload_n 0, 1) := by decide +kernel
theorem d_L_law_649 : decode b_L_law 649 = .ok (.iload 4, 2) := by decide +kernel
theorem d_L_law_651 : decode b_L_law 651 = .ok (.iconst 1, 1) := by decide +kernel
theorem d_L_law_652 : decode b_L_law 652 = .ok (.iadd, 1) := by decide +kernel
theorem d_L_law_653 : decode b_L_law 653 = .ok (.iaload, 1) := by decide +kernel
theorem d_L_law_654 : decode b_L_law 654 = .ok (.aload_n 0, 1) := by decide +kernel
theorem d_L_law_655 : decode b_L_law 655 = .ok (.iload 4, 2) := by decide +kernel
theorem d_L_law_657 : decode b_L_law 657 = .ok (.iconst 2, 1) := by decide +kernel
theorem d_L_law_658 : decode b_L_law 658 = .ok (.iadd, 1) := by decide +kernel
theorem d_L_law_659 : decode b_L_law 659 = .ok (.iaload, 1) := by decide +kernel
theorem d_L_law_660 : decode b_L_law 660 = .ok (.invokestatic 100, 3) := by decide +kernel
theorem d_L_law_663 : decode b_L_law 663 = .ok (.istore 5, 2) := by decide +kernel
theorem d_L_law_665 : decode b_L_law 665 = .ok (.aload_n 2, 1) := by decide +kernel
theorem d_L_law_666 : decode b_L_law 666 = .ok (.aload_n 0, 1) := by decide +kernel
theorem d_L_law_667 : decode b_L_law 667 = .ok (.iload 4, 2) := by decide +kernel
theorem d_L_law_669 : decode b_L_law 669 = .ok (.iconst 1, 1) := by decide +kernel
theorem d_L_law_670 : decode b_L_law 670 = .ok (.iadd, 1) := by decide +kernel
theorem d_L_law_671 : decode b_L_law 671 = .ok (.iaload, 1) := by decide +kernel
theorem d_L_law_672 : decode b_L_law 672 = .ok (.aload_n 0, 1) := by decide +kernel
theorem d_L_law_673 : decode b_L_law 673 = .ok (.iload 4, 2) := by decide +kernel
theorem d_L_law_675 : decode b_L_law 675 = .ok (.iconst 2, 1) := by decide +kernel
theorem d_L_law_676 : decode b_L_law 676 = .ok (.iadd, 1) := by decide +kernel
theorem d_L_law_677 : decode b_L_law 677 = .ok (.iaload, 1) := by decide +kernel
theorem d_L_law_678 : decode b_L_law 678 = .ok (.invokevirtual 102, 3) := by decide +kernel
theorem d_L_law_681 : decode b_L_law 681 = .ok (.aload_n 2, 1) := by decide +kernel
theorem d_L_law_682 : decode b_L_law 682 = .ok (.invokevirtual 65, 3) := by decide +kernel
theorem d_L_law_685 : decode b_L_law 685 = .ok (.iload 5, 2) := by decide +kernel
theorem d_L_law_687 : decode b_L_law 687 = .ok (.if_icmp .eq 5, 3) := by decide +kernel
theorem d_L_law_690 : decode b_L_law 690 = .ok (.iconst 0, 1) := by decide +kernel
theorem d_L_law_691 : decode b_L_law 691 = .ok (.ireturn, 1) := by decide +kernel
theorem d_L_law_692 : decode b_L_law 692 = .ok (.goto 763, 3) := by decide +kernel
theorem d_L_law_695 : decode b_L_law 695 = .ok (.aload_n 1, 1) := by decide +kernel
theorem d_L_law_696 : decode b_L_law 696 = .ok (.aload_n 0, 1) := by decide +kernel
theorem d_L_law_697 : decode b_L_law 697 = .ok (.iload 4, 2) := by decide +kernel
theorem d_L_law_699 : decode b_L_law 699 = .ok (.iconst 1, 1) := by decide +kernel
theorem d_L_law_700 : decode b_L_law 700 = .ok (.iadd, 1) := by decide +kernel
theorem d_L_law_701 : decode b_L_law 701 = .ok (.iaload, 1) := by decide +kernel
theorem d_L_law_702 : decode b_L_law 702 = .ok (.aload_n 0, 1) := by decide +kernel
theorem d_L_law_703 : decode b_L_law 703 = .ok (.iload 4, 2) := by decide +kernel
theorem d_L_law_705 : decode b_L_law 705 = .ok (.iconst 2, 1) := by decide +kernel
theorem d_L_law_706 : decode b_L_law 706 = .ok (.iadd, 1) := by decide +kernel
theorem d_L_law_707 : decode b_L_law 707 = .ok (.iaload, 1) := by decide +kernel
theorem d_L_law_708 : decode b_L_law 708 = .ok (.aload_n 0, 1) := by decide +kernel
theorem d_L_law_709 : decode b_L_law 709 = .ok (.iload 4, 2) := by decide +kernel
theorem d_L_law_711 : decode b_L_law 711 = .ok (.iconst 3, 1) := by decide +kernel
theorem d_L_law_712 : decode b_L_law 712 = .ok (.iadd, 1) := by decide +kernel
theorem d_L_law_713 : decode b_L_law 713 = .ok (.iaload, 1) := by decide +kernel
theorem d_L_law_714 : decode b_L_law 714 = .ok (.aload_n 0, 1) := by decide +kernel
theorem d_L_law_715 : decode b_L_law 715 = .ok (.iload 4, 2) := by decide +kernel
theorem d_L_law_717 : decode b_L_law 717 = .ok (.iconst 4, 1) := by decide +kernel
theorem d_L_law_718 : decode b_L_law 718 = .ok (.iadd, 1) := by decide +kernel
theorem d_L_law_719 : decode b_L_law 719 = .ok (.iaload, 1) := by decide +kernel
theorem d_L_law_720 : decode b_L_law 720 = .ok (.invokestatic 103, 3) := by decide +kernel
theorem d_L_law_723 : decode b_L_law 723 = .ok (.istore 5, 2) := by decide +kernel
theorem d_L_law_725 : decode b_L_law 725 = .ok (.aload_n 2, 1) := by decide +kernel
theorem d_L_law_726 : decode b_L_law 726 = .ok (.aload_n 0, 1) := by decide +kernel
theorem d_L_law_727 : decode b_L_law 727 = .ok (.iload 4, 2) := by decide +kernel
theorem d_L_law_729 : decode b_L_law 729 = .ok (.iconst 1, 1) := by decide +kernel
theorem d_L_law_730 : decode b_L_law 730 = .ok (.iadd, 1) := by decide +kernel
theorem d_L_law_731 : decode b_L_law 731 = .ok (.iaload, 1) := by decide +kernel
theorem d_L_law_732 : decode b_L_law 732 = .ok (.aload_n 0, 1) := by decide +kernel
theorem d_L_law_733 : decode b_L_law 733 = .ok (.iload 4, 2) := by decide +kernel
theorem d_L_law_735 : decode b_L_law 735 = .ok (.iconst 2, 1) := by decide +kernel
theorem d_L_law_736 : decode b_L_law 736 = .ok (.iadd, 1) := by decide +kernel
theorem d_L_law_737 : decode b_L_law 737 = .ok (.iaload, 1) := by decide +kernel
theorem d_L_law_738 : decode b_L_law 738 = .ok (.aload_n 0, 1) := by decide +kernel
theorem d_L_law_739 : decode b_L_law 739 = .ok (.iload 4, 2) := by decide +kernel
theorem d_L_law_741 : decode b_L_law 741 = .ok (.iconst 3, 1) := by decide +kernel
theorem d_L_law_742 : decode b_L_law 742 = .ok (.iadd, 1) := by decide +kernel
theorem d_L_law_743 : decode b_L_law 743 = .ok (.iaload, 1) := by decide +kernel
theorem d_L_law_744 : decode b_L_law 744 = .ok (.aload_n 0, 1) := by decide +kernel
theorem d_L_law_745 : decode b_L_law 745 = .ok (.iload 4, 2) := by decide +kernel
theorem d_L_law_747 : decode b_L_law 747 = .ok (.iconst 4, 1) := by decide +kernel
theorem d_L_law_748 : decode b_L_law 748 = .ok (.iadd, 1) := by decide +kernel
theorem d_L_law_749 : decode b_L_law 749 = .ok (.iaload, 1) := by decide +kernel
theorem d_L_law_750 : decode b_L_law 750 = .ok (.invokevirtual 105, 3) := by decide +kernel
theorem d_L_law_753 : decode b_L_law 753 = .ok (.aload_n 2, 1) := by decide +kernel
theorem d_L_law_754 : decode b_L_law 754 = .ok (.invokevirtual 65, 3) := by decide +kernel
theorem d_L_law_757 : decode b_L_law 757 = .ok (.iload 5, 2) := by decide +kernel
theorem d_L_law_759 : decode b_L_law 759 = .ok (.if_icmp .eq 5, 3) := by decide +kernel
theorem d_L_law_762 : decode b_L_law 762 = .ok (.iconst 0, 1) := by decide +kernel
theorem d_L_law_763 : decode b_L_law 763 = .ok (.ireturn, 1) := by decide +kernel
theorem d_L_law_764 : decode b_L_law 764 = .ok (.goto 691, 3) := by decide +kernel
theorem d_L_law_767 : decode b_L_law 767 = .ok (.aload_n 1, 1) := by decide +kernel
theorem d_L_law_768 : decode b_L_law 768 = .ok (.aload_n 0, 1) := by decide +kernel
theorem d_L_law_769 : decode b_L_law 769 = .ok (.iload 4, 2) := by decide +kernel
theorem d_L_law_771 : decode b_L_law 771 = .ok (.iconst 1, 1) := by decide +kernel
theorem d_L_law_772 : decode b_L_law 772 = .ok (.iadd, 1) := by decide +kernel
theorem d_L_law_773 : decode b_L_law 773 = .ok (.iaload, 1) := by decide +kernel
theorem d_L_law_774 : decode b_L_law 774 = .ok (.aload_n 3, 1) := by decide +kernel
theorem d_L_law_775 : decode b_L_law 775 = .ok (.invokestatic 106, 3) := by decide +kernel
theorem d_L_law_778 : decode b_L_law 778 = .ok (.istore 5, 2) := by decide +kernel
theorem d_L_law_780 : decode b_L_law 780 = .ok (.aload_n 2, 1) := by decide +kernel
theorem d_L_law_781 : decode b_L_law 781 = .ok (.aload_n 0, 1) := by decide +kernel
theorem d_L_law_782 : decode b_L_law 782 = .ok (.iload 4, 2) := by decide +kernel
theorem d_L_law_784 : decode b_L_law 784 = .ok (.iconst 1, 1) := by decide +kernel
theorem d_L_law_785 : decode b_L_law 785 = .ok (.iadd, 1) := by decide +kernel
theorem d_L_law_786 : decode b_L_law 786 = .ok (.iaload, 1) := by decide +kernel
theorem d_L_law_787 : decode b_L_law 787 = .ok (.invokevirtual 109, 3) := by decide +kernel
theorem d_L_law_790 : decode b_L_law 790 = .ok (.istore 6, 2) := by decide +kernel
theorem d_L_law_792 : decode b_L_law 792 = .ok (.aload_n 2, 1) := by decide +kernel
theorem d_L_law_793 : decode b_L_law 793 = .ok (.invokevirtual 65, 3) := by decide +kernel
theorem d_L_law_796 : decode b_L_law 796 = .ok (.iload 5, 2) := by decide +kernel
theorem d_L_law_798 : decode b_L_law 798 = .ok (.if_icmp .eq 5, 3) := by decide +kernel
theorem d_L_law_801 : decode b_L_law 801 = .ok (.iconst 0, 1) := by decide +kernel
theorem d_L_law_802 : decode b_L_law 802 = .ok (.ireturn, 1) := by decide +kernel
theorem d_L_law_803 : decode b_L_law 803 = .ok (.iload 5, 2) := by decide +kernel
theorem d_L_law_805 : decode b_L_law 805 = .ok (.ifCond .ne 15, 3) := by decide +kernel
theorem d_L_law_808 : decode b_L_law 808 = .ok (.aload_n 3, 1) := by decide +kernel
theorem d_L_law_809 : decode b_L_law 809 = .ok (.iconst 0, 1) := by decide +kernel
theorem d_L_law_810 : decode b_L_law 810 = .ok (.laload, 1) := by decide +kernel
theorem d_L_law_811 : decode b_L_law 811 = .ok (.iload 6, 2) := by decide +kernel
theorem d_L_law_813 : decode b_L_law 813 = .ok (.i2l, 1) := by decide +kernel
theorem d_L_law_814 : decode b_L_law 814 = .ok (.lcmp, 1) := by decide +kernel
theorem d_L_law_815 : decode b_L_law 815 = .ok (.ifCond .eq 5, 3) := by decide +kernel
theorem d_L_law_818 : decode b_L_law 818 = .ok (.iconst 0, 1) := by decide +kernel
theorem d_L_law_819 : decode b_L_law 819 = .ok (.ireturn, 1) := by decide +kernel
theorem d_L_law_820 : decode b_L_law 820 = .ok (.goto 635, 3) := by decide +kernel
theorem d_L_law_823 : decode b_L_law 823 = .ok (.aload_n 1, 1) := by decide +kernel
theorem d_L_law_824 : decode b_L_law 824 = .ok (.aload_n 0, 1) := by decide +kernel
theorem d_L_law_825 : decode b_L_law 825 = .ok (.iload 4, 2) := by decide +kernel
theorem d_L_law_827 : decode b_L_law 827 = .ok (.iconst 1, 1) := by decide +kernel
theorem d_L_law_828 : decode b_L_law 828 = .ok (.iadd, 1) := by decide +kernel
theorem d_L_law_829 : decode b_L_law 829 = .ok (.iaload, 1) := by decide +kernel
theorem d_L_law_830 : decode b_L_law 830 = .ok (.aload_n 0, 1) := by decide +kernel
theorem d_L_law_831 : decode b_L_law 831 = .ok (.iload 4, 2) := by decide +kernel
theorem d_L_law_833 : decode b_L_law 833 = .ok (.iconst 2, 1) := by decide +kernel
theorem d_L_law_834 : decode b_L_law 834 = .ok (.iadd, 1) := by decide +kernel
theorem d_L_law_835 : decode b_L_law 835 = .ok (.iaload, 1) := by decide +kernel
theorem d_L_law_836 : decode b_L_law 836 = .ok (.aload_n 3, 1) := by decide +kernel
theorem d_L_law_837 : decode b_L_law 837 = .ok (.invokestatic 110, 3) := by decide +kernel
theorem d_L_law_840 : decode b_L_law 840 = .ok (.istore 5, 2) := by decide +kernel
theorem d_L_law_842 : decode b_L_law 842 = .ok (.aload_n 2, 1) := by decide +kernel
theorem d_L_law_843 : decode b_L_law 843 = .ok (.aload_n 0, 1) := by decide +kernel
theorem d_L_law_844 : decode b_L_law 844 = .ok (.iload 4, 2) := by decide +kernel
theorem d_L_law_846 : decode b_L_law 846 = .ok (.iconst 1, 1) := by decide +kernel
theorem d_L_law_847 : decode b_L_law 847 = .ok (.iadd, 1) := by decide +kernel
theorem d_L_law_848 : decode b_L_law 848 = .ok (.iaload, 1) := by decide +kernel
theorem d_L_law_849 : decode b_L_law 849 = .ok (.aload_n 0, 1) := by decide +kernel
theorem d_L_law_850 : decode b_L_law 850 = .ok (.iload 4, 2) := by decide +kernel
theorem d_L_law_852 : decode b_L_law 852 = .ok (.iconst 2, 1) := by decide +kernel
theorem d_L_law_853 : decode b_L_law 853 = .ok (.iadd, 1) := by decide +kernel
theorem d_L_law_854 : decode b_L_law 854 = .ok (.iaload, 1) := by decide +kernel
theorem d_L_law_855 : decode b_L_law 855 = .ok (.invokevirtual 113, 3) := by decide +kernel
theorem d_L_law_858 : decode b_L_law 858 = .ok (.istore 6, 2) := by decide +kernel
theorem d_L_law_860 : decode b_L_law 860 = .ok (.aload_n 2, 1) := by decide +kernel
theorem d_L_law_861 : decode b_L_law 861 = .ok (.invokevirtual 65, 3) := by decide +kernel
theorem d_L_law_864 : decode b_L_law 864 = .ok (.iload 5, 2) := by decide +kernel
theorem d_L_law_866 : decode b_L_law 866 = .ok (.if_icmp .eq 5, 3) := by decide +kernel
theorem d_L_law_869 : decode b_L_law 869 = .ok (.iconst 0, 1) := by decide +kernel
theorem d_L_law_870 : decode b_L_law 870 = .ok (.ireturn, 1) := by decide +kernel
theorem d_L_law_871 : decode b_L_law 871 = .ok (.iload 5, 2) := by decide +kernel
theorem d_L_law_873 : decode b_L_law 873 = .ok (.ifCond .ne 15, 3) := by decide +kernel
theorem d_L_law_876 : decode b_L_law 876 = .ok (.aload_n 3, 1) := by decide +kernel
theorem d_L_law_877 : decode b_L_law 877 = .ok (.iconst 0, 1) := by decide +kernel
theorem d_L_law_878 : decode b_L_law 878 = .ok (.laload, 1) := by decide +kernel
theorem d_L_law_879 : decode b_L_law 879 = .ok (.iload 6, 2) := by decide +kernel
theorem d_L_law_881 : decode b_L_law 881 = .ok (.i2l, 1) := by decide +kernel
theorem d_L_law_882 : decode b_L_law 882 = .ok (.lcmp, 1) := by decide +kernel
theorem d_L_law_883 : decode b_L_law 883 = .ok (.ifCond .eq 5, 3) := by decide +kernel
theorem d_L_law_886 : decode b_L_law 886 = .ok (.iconst 0, 1) := by decide +kernel
theorem d_L_law_887 : decode b_L_law 887 = .ok (.ireturn, 1) := by decide +kernel
theorem d_L_law_888 : decode b_L_law 888 = .ok (.goto 567, 3) := by decide +kernel
theorem d_L_law_891 : decode b_L_law 891 = .ok (.aload_n 1, 1) := by decide +kernel
theorem d_L_law_892 : decode b_L_law 892 = .ok (.aload_n 0, 1) := by decide +kernel
theorem d_L_law_893 : decode b_L_law 893 = .ok (.iload 4, 2) := by decide +kernel
theorem d_L_law_895 : decode b_L_law 895 = .ok (.iconst 1, 1) := by decide +kernel
theorem d_L_law_896 : decode b_L_law 896 = .ok (.iadd, 1) := by decide +kernel
theorem d_L_law_897 : decode b_L_law 897 = .ok (.iaload, 1) := by decide +kernel
theorem d_L_law_898 : decode b_L_law 898 = .ok (.aload_n 0, 1) := by decide +kernel
theorem d_L_law_899 : decode b_L_law 899 = .ok (.iload 4, 2) := by decide +kernel
theorem d_L_law_901 : decode b_L_law 901 = .ok (.iconst 2, 1) := by decide +kernel
theorem d_L_law_902 : decode b_L_law 902 = .ok (.iadd, 1) := by decide +kernel
theorem d_L_law_903 : decode b_L_law 903 = .ok (.iaload, 1) := by decide +kernel
theorem d_L_law_904 : decode b_L_law 904 = .ok (.aload_n 0, 1) := by decide +kernel
theorem d_L_law_905 : decode b_L_law 905 = .ok (.iload 4, 2) := by decide +kernel
theorem d_L_law_907 : decode b_L_law 907 = .ok (.iconst 3, 1) := by decide +kernel
theorem d_L_law_908 : decode b_L_law 908 = .ok (.iadd, 1) := by decide +kernel
theorem d_L_law_909 : decode b_L_law 909 = .ok (.iaload, 1) := by decide +kernel
theorem d_L_law_910 : decode b_L_law 910 = .ok (.invokevirtual 114, 3) := by decide +kernel
theorem d_L_law_913 : decode b_L_law 913 = .ok (.aload_n 2, 1) := by decide +kernel
theorem d_L_law_914 : decode b_L_law 914 = .ok (.aload_n 0, 1) := by decide +kernel
theorem d_L_law_915 : decode b_L_law 915 = .ok (.iload 4, 2) := by decide +kernel
theorem d_L_law_917 : decode b_L_law 917 = .ok (.iconst 1, 1) := by decide +kernel
theorem d_L_law_918 : decode b_L_law 918 = .ok (.iadd, 1) := by decide +kernel
theorem d_L_law_919 : decode b_L_law 919 = .ok (.iaload, 1) := by decide +kernel
theorem d_L_law_920 : decode b_L_law 920 = .ok (.aload_n 0, 1) := by decide +kernel
theorem d_L_law_921 : decode b_L_law 921 = .ok (.iload 4, 2) := by decide +kernel
theorem d_L_law_923 : decode b_L_law 923 = .ok (.iconst 2, 1) := by decide +kernel
theorem d_L_law_924 : decode b_L_law 924 = .ok (.iadd, 1) := by decide +kernel
theorem d_L_law_925 : decode b_L_law 925 = .ok (.iaload, 1) := by decide +kernel
theorem d_L_law_926 : decode b_L_law 926 = .ok (.aload_n 0, 1) := by decide +kernel
theorem d_L_law_927 : decode b_L_law 927 = .ok (.iload 4, 2) := by decide +kernel
theorem d_L_law_929 : decode b_L_law 929 = .ok (.iconst 3, 1) := by decide +kernel
theorem d_L_law_930 : decode b_L_law 930 = .ok (.iadd, 1) := by decide +kernel
theorem d_L_law_931 : decode b_L_law 931 = .ok (.iaload, 1) := by decide +kernel
theorem d_L_law_932 : decode b_L_law 932 = .ok (.invokevirtual 117, 3) := by decide +kernel
theorem d_L_law_935 : decode b_L_law 935 = .ok (.if_icmp .eq 520, 3) := by decide +kernel
theorem d_L_law_938 : decode b_L_law 938 = .ok (.iconst 0, 1) := by decide +kernel
theorem d_L_law_939 : decode b_L_law 939 = .ok (.ireturn, 1) := by decide +kernel
theorem d_L_law_940 : decode b_L_law 940 = .ok (.aload_n 1, 1) := by decide +kernel
theorem d_L_law_941 : decode b_L_law 941 = .ok (.aload_n 0, 1) := by decide +kernel
theorem d_L_law_942 : decode b_L_law 942 = .ok (.iload 4, 2) := by decide +kernel
theorem d_L_law_944 : decode b_L_law 944 = .ok (.iconst 1, 1) := by decide +kernel
theorem d_L_law_945 : decode b_L_law 945 = .ok (.iadd, 1) := by decide +kernel
theorem d_L_law_946 : decode b_L_law 946 = .ok (.iaload, 1) := by decide +kernel
theorem d_L_law_947 : decode b_L_law 947 = .ok (.aload_n 0, 1) := by decide +kernel
theorem d_L_law_948 : decode b_L_law 948 = .ok (.iload 4, 2) := by decide +kernel
theorem d_L_law_950 : decode b_L_law 950 = .ok (.iconst 2, 1) := by decide +kernel
theorem d_L_law_951 : decode b_L_law 951 = .ok (.iadd, 1) := by decide +kernel
theorem d_L_law_952 : decode b_L_law 952 = .ok (.iaload, 1) := by decide +kernel
theorem d_L_law_953 : decode b_L_law 953 = .ok (.aload_n 0, 1) := by decide +kernel
theorem d_L_law_954 : decode b_L_law 954 = .ok (.iload 4, 2) := by decide +kernel
theorem d_L_law_956 : decode b_L_law 956 = .ok (.iconst 3, 1) := by decide +kernel
theorem d_L_law_957 : decode b_L_law 957 = .ok (.iadd, 1) := by decide +kernel
theorem d_L_law_958 : decode b_L_law 958 = .ok (.iaload, 1) := by decide +kernel
theorem d_L_law_959 : decode b_L_law 959 = .ok (.aload_n 3, 1) := by decide +kernel
theorem d_L_law_960 : decode b_L_law 960 = .ok (.invokestatic 118, 3) := by decide +kernel
theorem d_L_law_963 : decode b_L_law 963 = .ok (.istore 5, 2) := by decide +kernel
theorem d_L_law_965 : decode b_L_law 965 = .ok (.aload_n 2, 1) := by decide +kernel
theorem d_L_law_966 : decode b_L_law 966 = .ok (.aload_n 0, 1) := by decide +kernel
theorem d_L_law_967 : decode b_L_law 967 = .ok (.iload 4, 2) := by decide +kernel
theorem d_L_law_969 : decode b_L_law 969 = .ok (.iconst 1, 1) := by decide +kernel
theorem d_L_law_970 : decode b_L_law 970 = .ok (.iadd, 1) := by decide +kernel
theorem d_L_law_971 : decode b_L_law 971 = .ok (.iaload, 1) := by decide +kernel
theorem d_L_law_972 : decode b_L_law 972 = .ok (.aload_n 0, 1) := by decide +kernel
theorem d_L_law_973 : decode b_L_law 973 = .ok (.iload 4, 2) := by decide +kernel
theorem d_L_law_975 : decode b_L_law 975 = .ok (.iconst 2, 1) := by decide +kernel
theorem d_L_law_976 : decode b_L_law 976 = .ok (.iadd, 1) := by decide +kernel
theorem d_L_law_977 : decode b_L_law 977 = .ok (.iaload, 1) := by decide +kernel
theorem d_L_law_978 : decode b_L_law 978 = .ok (.aload_n 0, 1) := by decide +kernel
theorem d_L_law_979 : decode b_L_law 979 = .ok (.iload 4, 2) := by decide +kernel
theorem d_L_law_981 : decode b_L_law 981 = .ok (.iconst 3, 1) := by decide +kernel
theorem d_L_law_982 : decode b_L_law 982 = .ok (.iadd, 1) := by decide +kernel
theorem d_L_law_983 : decode b_L_law 983 = .ok (.iaload, 1) := by decide +kernel
theorem d_L_law_984 : decode b_L_law 984 = .ok (.invokevirtual 121, 3) := by decide +kernel
theorem d_L_law_987 : decode b_L_law 987 = .ok (.istore 6, 2) := by decide +kernel
theorem d_L_law_989 : decode b_L_law 989 = .ok (.aload_n 2, 1) := by decide +kernel
theorem d_L_law_990 : decode b_L_law 990 = .ok (.invokevirtual 65, 3) := by decide +kernel
theorem d_L_law_993 : decode b_L_law 993 = .ok (.iload 5, 2) := by decide +kernel
theorem d_L_law_995 : decode b_L_law 995 = .ok (.if_icmp .eq 5, 3) := by decide +kernel
theorem d_L_law_998 : decode b_L_law 998 = .ok (.iconst 0, 1) := by decide +kernel
theorem d_L_law_999 : decode b_L_law 999 = .ok (.ireturn, 1) := by decide +kernel
theorem d_L_law_1000 : decode b_L_law 1000 = .ok (.iload 5, 2) := by decide +kernel
theorem d_L_law_1002 : decode b_L_law 1002 = .ok (.ifCond .ne 15, 3) := by decide +kernel
theorem d_L_law_1005 : decode b_L_law 1005 = .ok (.aload_n 3, 1) := by decide +kernel
theorem d_L_law_1006 : decode b_L_law 1006 = .ok (.iconst 0, 1) := by decide +kernel
theorem d_L_law_1007 : decode b_L_law 1007 = .ok (.laload, 1) := by decide +kernel
theorem d_L_law_1008 : decode b_L_law 1008 = .ok (.iload 6, 2) := by decide +kernel
theorem d_L_law_1010 : decode b_L_law 1010 = .ok (.i2l, 1) := by decide +kernel
theorem d_L_law_1011 : decode b_L_law 1011 = .ok (.lcmp, 1) := by decide +kernel
theorem d_L_law_1012 : decode b_L_law 1012 = .ok (.ifCond .eq 5, 3) := by decide +kernel
theorem d_L_law_1015 : decode b_L_law 1015 = .ok (.iconst 0, 1) := by decide +kernel
theorem d_L_law_1016 : decode b_L_law 1016 = .ok (.ireturn, 1) := by decide +kernel
theorem d_L_law_1017 : decode b_L_law 1017 = .ok (.goto 438, 3) := by decide +kernel
theorem d_L_law_1020 : decode b_L_law 1020 = .ok (.aload_n 1, 1) := by decide +kernel
theorem d_L_law_1021 : decode b_L_law 1021 = .ok (.aload_n 0, 1) := by decide +kernel
theorem d_L_law_1022 : decode b_L_law 1022 = .ok (.iload 4, 2) := by decide +kernel
theorem d_L_law_1024 : decode b_L_law 1024 = .ok (.iconst 1, 1) := by decide +kernel
theorem d_L_law_1025 : decode b_L_law 1025 = .ok (.iadd, 1) := by decide +kernel
theorem d_L_law_1026 : decode b_L_law 1026 = .ok (.iaload, 1) := by decide +kernel
theorem d_L_law_1027 : decode b_L_law 1027 = .ok (.aload_n 0, 1) := by decide +kernel
theorem d_L_law_1028 : decode b_L_law 1028 = .ok (.iload 4, 2) := by decide +kernel
theorem d_L_law_1030 : decode b_L_law 1030 = .ok (.iconst 2, 1) := by decide +kernel
theorem d_L_law_1031 : decode b_L_law 1031 = .ok (.iadd, 1) := by decide +kernel
theorem d_L_law_1032 : decode b_L_law 1032 = .ok (.iaload, 1) := by decide +kernel
theorem d_L_law_1033 : decode b_L_law 1033 = .ok (.aload_n 0, 1) := by decide +kernel
theorem d_L_law_1034 : decode b_L_law 1034 = .ok (.iload 4, 2) := by decide +kernel
theorem d_L_law_1036 : decode b_L_law 1036 = .ok (.iconst 3, 1) := by decide +kernel
theorem d_L_law_1037 : decode b_L_law 1037 = .ok (.iadd, 1) := by decide +kernel
theorem d_L_law_1038 : decode b_L_law 1038 = .ok (.iaload, 1) := by decide +kernel
theorem d_L_law_1039 : decode b_L_law 1039 = .ok (.aload_n 0, 1) := by decide +kernel
theorem d_L_law_1040 : decode b_L_law 1040 = .ok (.iload 4, 2) := by decide +kernel
theorem d_L_law_1042 : decode b_L_law 1042 = .ok (.iconst 4, 1) := by decide +kernel
theorem d_L_law_1043 : decode b_L_law 1043 = .ok (.iadd, 1) := by decide +kernel
theorem d_L_law_1044 : decode b_L_law 1044 = .ok (.iaload, 1) := by decide +kernel
theorem d_L_law_1045 : decode b_L_law 1045 = .ok (.invokevirtual 122, 3) := by decide +kernel
theorem d_L_law_1048 : decode b_L_law 1048 = .ok (.aload_n 2, 1) := by decide +kernel
theorem d_L_law_1049 : decode b_L_law 1049 = .ok (.aload_n 0, 1) := by decide +kernel
theorem d_L_law_1050 : decode b_L_law 1050 = .ok (.iload 4, 2) := by decide +kernel
theorem d_L_law_1052 : decode b_L_law 1052 = .ok (.iconst 1, 1) := by decide +kernel
theorem d_L_law_1053 : decode b_L_law 1053 = .ok (.iadd, 1) := by decide +kernel
theorem d_L_law_1054 : decode b_L_law 1054 = .ok (.iaload, 1) := by decide +kernel
theorem d_L_law_1055 : decode b_L_law 1055 = .ok (.aload_n 0, 1) := by decide +kernel
theorem d_L_law_1056 : decode b_L_law 1056 = .ok (.iload 4, 2) := by decide +kernel
theorem d_L_law_1058 : decode b_L_law 1058 = .ok (.iconst 2, 1) := by decide +kernel
theorem d_L_law_1059 : decode b_L_law 1059 = .ok (.iadd, 1) := by decide +kernel
theorem d_L_law_1060 : decode b_L_law 1060 = .ok (.iaload, 1) := by decide +kernel
theorem d_L_law_1061 : decode b_L_law 1061 = .ok (.aload_n 0, 1) := by decide +kernel
theorem d_L_law_1062 : decode b_L_law 1062 = .ok (.iload 4, 2) := by decide +kernel
theorem d_L_law_1064 : decode b_L_law 1064 = .ok (.iconst 3, 1) := by decide +kernel
theorem d_L_law_1065 : decode b_L_law 1065 = .ok (.iadd, 1) := by decide +kernel
theorem d_L_law_1066 : decode b_L_law 1066 = .ok (.iaload, 1) := by decide +kernel
theorem d_L_law_1067 : decode b_L_law 1067 = .ok (.aload_n 0, 1) := by decide +kernel
theorem d_L_law_1068 : decode b_L_law 1068 = .ok (.iload 4, 2) := by decide +kernel
theorem d_L_law_1070 : decode b_L_law 1070 = .ok (.iconst 4, 1) := by decide +kernel
theorem d_L_law_1071 : decode b_L_law 1071 = .ok (.iadd, 1) := by decide +kernel
theorem d_L_law_1072 : decode b_L_law 1072 = .ok (.iaload, 1) := by decide +kernel
theorem d_L_law_1073 : decode b_L_law 1073 = .ok (.invokevirtual 126, 3) := by decide +kernel
theorem d_L_law_1076 : decode b_L_law 1076 = .ok (.if_icmp .eq 379, 3) := by decide +kernel
theorem d_L_law_1079 : decode b_L_law 1079 = .ok (.iconst 0, 1) := by decide +kernel
theorem d_L_law_1080 : decode b_L_law 1080 = .ok (.ireturn, 1) := by decide +kernel
theorem d_L_law_1081 : decode b_L_law 1081 = .ok (.aload_n 1, 1) := by decide +kernel
theorem d_L_law_1082 : decode b_L_law 1082 = .ok (.aload_n 0, 1) := by decide +kernel
theorem d_L_law_1083 : decode b_L_law 1083 = .ok (.iload 4, 2) := by decide +kernel
theorem d_L_law_1085 : decode b_L_law 1085 = .ok (.iconst 1, 1) := by decide +kernel
theorem d_L_law_1086 : decode b_L_law 1086 = .ok (.iadd, 1) := by decide +kernel
theorem d_L_law_1087 : decode b_L_law 1087 = .ok (.iaload, 1) := by decide +kernel
theorem d_L_law_1088 : decode b_L_law 1088 = .ok (.aload_n 0, 1) := by decide +kernel
theorem d_L_law_1089 : decode b_L_law 1089 = .ok (.iload 4, 2) := by decide +kernel
theorem d_L_law_1091 : decode b_L_law 1091 = .ok (.iconst 2, 1) := by decide +kernel
theorem d_L_law_1092 : decode b_L_law 1092 = .ok (.iadd, 1) := by decide +kernel
theorem d_L_law_1093 : decode b_L_law 1093 = .ok (.iaload, 1) := by decide +kernel
theorem d_L_law_1094 : decode b_L_law 1094 = .ok (.aload_n 0, 1) := by decide +kernel
theorem d_L_law_1095 : decode b_L_law 1095 = .ok (.iload 4, 2) := by decide +kernel
theorem d_L_law_1097 : decode b_L_law 1097 = .ok (.iconst 3, 1) := by decide +kernel
theorem d_L_law_1098 : decode b_L_law 1098 = .ok (.iadd, 1) := by decide +kernel
theorem d_L_law_1099 : decode b_L_law 1099 = .ok (.iaload, 1) := by decide +kernel
theorem d_L_law_1100 : decode b_L_law 1100 = .ok (.aload_n 0, 1) := by decide +kernel
theorem d_L_law_1101 : decode b_L_law 1101 = .ok (.iload 4, 2) := by decide +kernel
theorem d_L_law_1103 : decode b_L_law 1103 = .ok (.iconst 4, 1) := by decide +kernel
theorem d_L_law_1104 : decode b_L_law 1104 = .ok (.iadd, 1) := by decide +kernel
theorem d_L_law_1105 : decode b_L_law 1105 = .ok (.iaload, 1) := by decide +kernel
theorem d_L_law_1106 : decode b_L_law 1106 = .ok (.aload_n 0, 1) := by decide +kernel
theorem d_L_law_1107 : decode b_L_law 1107 = .ok (.iload 4, 2) := by decide +kernel
theorem d_L_law_1109 : decode b_L_law 1109 = .ok (.iconst 5, 1) := by decide +kernel
theorem d_L_law_1110 : decode b_L_law 1110 = .ok (.iadd, 1) := by decide +kernel
theorem d_L_law_1111 : decode b_L_law 1111 = .ok (.iaload, 1) := by decide +kernel
theorem d_L_law_1112 : decode b_L_law 1112 = .ok (.invokevirtual 127, 3) := by decide +kernel
theorem d_L_law_1115 : decode b_L_law 1115 = .ok (.aload_n 2, 1) := by decide +kernel
theorem d_L_law_1116 : decode b_L_law 1116 = .ok (.aload_n 0, 1) := by decide +kernel
theorem d_L_law_1117 : decode b_L_law 1117 = .ok (.iload 4, 2) := by decide +kernel
theorem d_L_law_1119 : decode b_L_law 1119 = .ok (.iconst 1, 1) := by decide +kernel
theorem d_L_law_1120 : decode b_L_law 1120 = .ok (.iadd, 1) := by decide +kernel
theorem d_L_law_1121 : decode b_L_law 1121 = .ok (.iaload, 1) := by decide +kernel
theorem d_L_law_1122 : decode b_L_law 1122 = .ok (.aload_n 0, 1) := by decide +kernel
theorem d_L_law_1123 : decode b_L_law 1123 = .ok (.iload 4, 2) := by decide +kernel
theorem d_L_law_1125 : decode b_L_law 1125 = .ok (.iconst 2, 1) := by decide +kernel
theorem d_L_law_1126 : decode b_L_law 1126 = .ok (.iadd, 1) := by decide +kernel
theorem d_L_law_1127 : decode b_L_law 1127 = .ok (.iaload, 1) := by decide +kernel
theorem d_L_law_1128 : decode b_L_law 1128 = .ok (.aload_n 0, 1) := by decide +kernel
theorem d_L_law_1129 : decode b_L_law 1129 = .ok (.iload 4, 2) := by decide +kernel
theorem d_L_law_1131 : decode b_L_law 1131 = .ok (.iconst 3, 1) := by decide +kernel
theorem d_L_law_1132 : decode b_L_law 1132 = .ok (.iadd, 1) := by decide +kernel
theorem d_L_law_1133 : decode b_L_law 1133 = .ok (.iaload, 1) := by decide +kernel
theorem d_L_law_1134 : decode b_L_law 1134 = .ok (.aload_n 0, 1) := by decide +kernel
theorem d_L_law_1135 : decode b_L_law 1135 = .ok (.iload 4, 2) := by decide +kernel
theorem d_L_law_1137 : decode b_L_law 1137 = .ok (.iconst 4, 1) := by decide +kernel
theorem d_L_law_1138 : decode b_L_law 1138 = .ok (.iadd, 1) := by decide +kernel
theorem d_L_law_1139 : decode b_L_law 1139 = .ok (.iaload, 1) := by decide +kernel
theorem d_L_law_1140 : decode b_L_law 1140 = .ok (.aload_n 0, 1) := by decide +kernel
theorem d_L_law_1141 : decode b_L_law 1141 = .ok (.iload 4, 2) := by decide +kernel
theorem d_L_law_1143 : decode b_L_law 1143 = .ok (.iconst 5, 1) := by decide +kernel
theorem d_L_law_1144 : decode b_L_law 1144 = .ok (.iadd, 1) := by decide +kernel
theorem d_L_law_1145 : decode b_L_law 1145 = .ok (.iaload, 1) := by decide +kernel
theorem d_L_law_1146 : decode b_L_law 1146 = .ok (.invokevirtual 131, 3) := by decide +kernel
theorem d_L_law_1149 : decode b_L_law 1149 = .ok (.if_icmp .eq 306, 3) := by decide +kernel
theorem d_L_law_1152 : decode b_L_law 1152 = .ok (.iconst 0, 1) := by decide +kernel
theorem d_L_law_1153 : decode b_L_law 1153 = .ok (.ireturn, 1) := by decide +kernel
theorem d_L_law_1154 : decode b_L_law 1154 = .ok (.aload_n 1, 1) := by decide +kernel
theorem d_L_law_1155 : decode b_L_law 1155 = .ok (.aload_n 0, 1) := by decide +kernel
theorem d_L_law_1156 : decode b_L_law 1156 = .ok (.iload 4, 2) := by decide +kernel
theorem d_L_law_1158 : decode b_L_law 1158 = .ok (.iconst 1, 1) := by decide +kernel
theorem d_L_law_1159 : decode b_L_law 1159 = .ok (.iadd, 1) := by decide +kernel
theorem d_L_law_1160 : decode b_L_law 1160 = .ok (.iaload, 1) := by decide +kernel
theorem d_L_law_1161 : decode b_L_law 1161 = .ok (.aload_n 0, 1) := by decide +kernel
theorem d_L_law_1162 : decode b_L_law 1162 = .ok (.iload 4, 2) := by decide +kernel
theorem d_L_law_1164 : decode b_L_law 1164 = .ok (.iconst 2, 1) := by decide +kernel
theorem d_L_law_1165 : decode b_L_law 1165 = .ok (.iadd, 1) := by decide +kernel
theorem d_L_law_1166 : decode b_L_law 1166 = .ok (.iaload, 1) := by decide +kernel
theorem d_L_law_1167 : decode b_L_law 1167 = .ok (.aload_n 0, 1) := by decide +kernel
theorem d_L_law_1168 : decode b_L_law 1168 = .ok (.iload 4, 2) := by decide +kernel
theorem d_L_law_1170 : decode b_L_law 1170 = .ok (.iconst 3, 1) := by decide +kernel
theorem d_L_law_1171 : decode b_L_law 1171 = .ok (.iadd, 1) := by decide +kernel
theorem d_L_law_1172 : decode b_L_law 1172 = .ok (.iaload, 1) := by decide +kernel
theorem d_L_law_1173 : decode b_L_law 1173 = .ok (.aload_n 3, 1) := by decide +kernel
theorem d_L_law_1174 : decode b_L_law 1174 = .ok (.invokestatic 132, 3) := by decide +kernel
theorem d_L_law_1177 : decode b_L_law 1177 = .ok (.istore 5, 2) := by decide +kernel
theorem d_L_law_1179 : decode b_L_law 1179 = .ok (.aload_n 2, 1) := by decide +kernel
theorem d_L_law_1180 : decode b_L_law 1180 = .ok (.aload_n 0, 1) := by decide +kernel
theorem d_L_law_1181 : decode b_L_law 1181 = .ok (.iload 4, 2) := by decide +kernel
theorem d_L_law_1183 : decode b_L_law 1183 = .ok (.iconst 1, 1) := by decide +kernel
theorem d_L_law_1184 : decode b_L_law 1184 = .ok (.iadd, 1) := by decide +kernel
theorem d_L_law_1185 : decode b_L_law 1185 = .ok (.iaload, 1) := by decide +kernel
theorem d_L_law_1186 : decode b_L_law 1186 = .ok (.aload_n 0, 1) := by decide +kernel
theorem d_L_law_1187 : decode b_L_law 1187 = .ok (.iload 4, 2) := by decide +kernel
theorem d_L_law_1189 : decode b_L_law 1189 = .ok (.iconst 2, 1) := by decide +kernel
theorem d_L_law_1190 : decode b_L_law 1190 = .ok (.iadd, 1) := by decide +kernel
theorem d_L_law_1191 : decode b_L_law 1191 = .ok (.iaload, 1) := by decide +kernel
theorem d_L_law_1192 : decode b_L_law 1192 = .ok (.aload_n 0, 1) := by decide +kernel
theorem d_L_law_1193 : decode b_L_law 1193 = .ok (.iload 4, 2) := by decide +kernel
theorem d_L_law_1195 : decode b_L_law 1195 = .ok (.iconst 3, 1) := by decide +kernel
theorem d_L_law_1196 : decode b_L_law 1196 = .ok (.iadd, 1) := by decide +kernel
theorem d_L_law_1197 : decode b_L_law 1197 = .ok (.iaload, 1) := by decide +kernel
theorem d_L_law_1198 : decode b_L_law 1198 = .ok (.invokevirtual 134, 3) := by decide +kernel
theorem d_L_law_1201 : decode b_L_law 1201 = .ok (.istore 6, 2) := by decide +kernel
theorem d_L_law_1203 : decode b_L_law 1203 = .ok (.aload_n 2, 1) := by decide +kernel
theorem d_L_law_1204 : decode b_L_law 1204 = .ok (.invokevirtual 65, 3) := by decide +kernel
theorem d_L_law_1207 : decode b_L_law 1207 = .ok (.iload 5, 2) := by decide +kernel
theorem d_L_law_1209 : decode b_L_law 1209 = .ok (.if_icmp .eq 5, 3) := by decide +kernel
theorem d_L_law_1212 : decode b_L_law 1212 = .ok (.iconst 0, 1) := by decide +kernel
theorem d_L_law_1213 : decode b_L_law 1213 = .ok (.ireturn, 1) := by decide +kernel
theorem d_L_law_1214 : decode b_L_law 1214 = .ok (.iload 5, 2) := by decide +kernel
theorem d_L_law_1216 : decode b_L_law 1216 = .ok (.ifCond .ne 15, 3) := by decide +kernel
theorem d_L_law_1219 : decode b_L_law 1219 = .ok (.aload_n 3, 1) := by decide +kernel
theorem d_L_law_1220 : decode b_L_law 1220 = .ok (.iconst 0, 1) := by decide +kernel
theorem d_L_law_1221 : decode b_L_law 1221 = .ok (.laload, 1) := by decide +kernel
theorem d_L_law_1222 : decode b_L_law 1222 = .ok (.iload 6, 2) := by decide +kernel
theorem d_L_law_1224 : decode b_L_law 1224 = .ok (.i2l, 1) := by decide +kernel
theorem d_L_law_1225 : decode b_L_law 1225 = .ok (.lcmp, 1) := by decide +kernel
theorem d_L_law_1226 : decode b_L_law 1226 = .ok (.ifCond .eq 5, 3) := by decide +kernel
theorem d_L_law_1229 : decode b_L_law 1229 = .ok (.iconst 0, 1) := by decide +kernel
theorem d_L_law_1230 : decode b_L_law 1230 = .ok (.ireturn, 1) := by decide +kernel
theorem d_L_law_1231 : decode b_L_law 1231 = .ok (.goto 224, 3) := by decide +kernel
theorem d_L_law_1234 : decode b_L_law 1234 = .ok (.aload_n 1, 1) := by decide +kernel
theorem d_L_law_1235 : decode b_L_law 1235 = .ok (.aload_n 0, 1) := by decide +kernel
theorem d_L_law_1236 : decode b_L_law 1236 = .ok (.iload 4, 2) := by decide +kernel
theorem d_L_law_1238 : decode b_L_law 1238 = .ok (.iconst 1, 1) := by decide +kernel
theorem d_L_law_1239 : decode b_L_law 1239 = .ok (.iadd, 1) := by decide +kernel
theorem d_L_law_1240 : decode b_L_law 1240 = .ok (.iaload, 1) := by decide +kernel
theorem d_L_law_1241 : decode b_L_law 1241 = .ok (.aload_n 0, 1) := by decide +kernel
theorem d_L_law_1242 : decode b_L_law 1242 = .ok (.iload 4, 2) := by decide +kernel
theorem d_L_law_1244 : decode b_L_law 1244 = .ok (.iconst 2, 1) := by decide +kernel
theorem d_L_law_1245 : decode b_L_law 1245 = .ok (.iadd, 1) := by decide +kernel
theorem d_L_law_1246 : decode b_L_law 1246 = .ok (.iaload, 1) := by decide +kernel
theorem d_L_law_1247 : decode b_L_law 1247 = .ok (.aload_n 0, 1) := by decide +kernel
theorem d_L_law_1248 : decode b_L_law 1248 = .ok (.iload 4, 2) := by decide +kernel
theorem d_L_law_1250 : decode b_L_law 1250 = .ok (.iconst 3, 1) := by decide +kernel
theorem d_L_law_1251 : decode b_L_law 1251 = .ok (.iadd, 1) := by decide +kernel
theorem d_L_law_1252 : decode b_L_law 1252 = .ok (.iaload, 1) := by decide +kernel
theorem d_L_law_1253 : decode b_L_law 1253 = .ok (.invokevirtual 135, 3) := by decide +kernel
theorem d_L_law_1256 : decode b_L_law 1256 = .ok (.aload_n 2, 1) := by decide +kernel
theorem d_L_law_1257 : decode b_L_law 1257 = .ok (.aload_n 0, 1) := by decide +kernel
theorem d_L_law_1258 : decode b_L_law 1258 = .ok (.iload 4, 2) := by decide +kernel
theorem d_L_law_1260 : decode b_L_law 1260 = .ok (.iconst 1, 1) := by decide +kernel
theorem d_L_law_1261 : decode b_L_law 1261 = .ok (.iadd, 1) := by decide +kernel
theorem d_L_law_1262 : decode b_L_law 1262 = .ok (.iaload, 1) := by decide +kernel
theorem d_L_law_1263 : decode b_L_law 1263 = .ok (.aload_n 0, 1) := by decide +kernel
theorem d_L_law_1264 : decode b_L_law 1264 = .ok (.iload 4, 2) := by decide +kernel
theorem d_L_law_1266 : decode b_L_law 1266 = .ok (.iconst 2, 1) := by decide +kernel
theorem d_L_law_1267 : decode b_L_law 1267 = .ok (.iadd, 1) := by decide +kernel
theorem d_L_law_1268 : decode b_L_law 1268 = .ok (.iaload, 1) := by decide +kernel
theorem d_L_law_1269 : decode b_L_law 1269 = .ok (.aload_n 0, 1) := by decide +kernel
theorem d_L_law_1270 : decode b_L_law 1270 = .ok (.iload 4, 2) := by decide +kernel
theorem d_L_law_1272 : decode b_L_law 1272 = .ok (.iconst 3, 1) := by decide +kernel
theorem d_L_law_1273 : decode b_L_law 1273 = .ok (.iadd, 1) := by decide +kernel
theorem d_L_law_1274 : decode b_L_law 1274 = .ok (.iaload, 1) := by decide +kernel
theorem d_L_law_1275 : decode b_L_law 1275 = .ok (.invokevirtual 138, 3) := by decide +kernel
theorem d_L_law_1278 : decode b_L_law 1278 = .ok (.if_icmp .eq 177, 3) := by decide +kernel
theorem d_L_law_1281 : decode b_L_law 1281 = .ok (.iconst 0, 1) := by decide +kernel
theorem d_L_law_1282 : decode b_L_law 1282 = .ok (.ireturn, 1) := by decide +kernel
theorem d_L_law_1283 : decode b_L_law 1283 = .ok (.aload_n 1, 1) := by decide +kernel
theorem d_L_law_1284 : decode b_L_law 1284 = .ok (.aload_n 0, 1) := by decide +kernel
theorem d_L_law_1285 : decode b_L_law 1285 = .ok (.iload 4, 2) := by decide +kernel
theorem d_L_law_1287 : decode b_L_law 1287 = .ok (.iconst 1, 1) := by decide +kernel
theorem d_L_law_1288 : decode b_L_law 1288 = .ok (.iadd, 1) := by decide +kernel
theorem d_L_law_1289 : decode b_L_law 1289 = .ok (.iaload, 1) := by decide +kernel
theorem d_L_law_1290 : decode b_L_law 1290 = .ok (.aload_n 0, 1) := by decide +kernel
theorem d_L_law_1291 : decode b_L_law 1291 = .ok (.iload 4, 2) := by decide +kernel
theorem d_L_law_1293 : decode b_L_law 1293 = .ok (.iconst 2, 1) := by decide +kernel
theorem d_L_law_1294 : decode b_L_law 1294 = .ok (.iadd, 1) := by decide +kernel
theorem d_L_law_1295 : decode b_L_law 1295 = .ok (.iaload, 1) := by decide +kernel
theorem d_L_law_1296 : decode b_L_law 1296 = .ok (.aload_n 0, 1) := by decide +kernel
theorem d_L_law_1297 : decode b_L_law 1297 = .ok (.iload 4, 2) := by decide +kernel
theorem d_L_law_1299 : decode b_L_law 1299 = .ok (.iconst 3, 1) := by decide +kernel
theorem d_L_law_1300 : decode b_L_law 1300 = .ok (.iadd, 1) := by decide +kernel
theorem d_L_law_1301 : decode b_L_law 1301 = .ok (.iaload, 1) := by decide +kernel
theorem d_L_law_1302 : decode b_L_law 1302 = .ok (.aload_n 0, 1) := by decide +kernel
theorem d_L_law_1303 : decode b_L_law 1303 = .ok (.iload 4, 2) := by decide +kernel
theorem d_L_law_1305 : decode b_L_law 1305 = .ok (.iconst 4, 1) := by decide +kernel
theorem d_L_law_1306 : decode b_L_law 1306 = .ok (.iadd, 1) := by decide +kernel
theorem d_L_law_1307 : decode b_L_law 1307 = .ok (.iaload, 1) := by decide +kernel
theorem d_L_law_1308 : decode b_L_law 1308 = .ok (.invokevirtual 139, 3) := by decide +kernel
theorem d_L_law_1311 : decode b_L_law 1311 = .ok (.aload_n 2, 1) := by decide +kernel
theorem d_L_law_1312 : decode b_L_law 1312 = .ok (.aload_n 0, 1) := by decide +kernel
theorem d_L_law_1313 : decode b_L_law 1313 = .ok (.iload 4, 2) := by decide +kernel
theorem d_L_law_1315 : decode b_L_law 1315 = .ok (.iconst 1, 1) := by decide +kernel
theorem d_L_law_1316 : decode b_L_law 1316 = .ok (.iadd, 1) := by decide +kernel
theorem d_L_law_1317 : decode b_L_law 1317 = .ok (.iaload, 1) := by decide +kernel
theorem d_L_law_1318 : decode b_L_law 1318 = .ok (.aload_n 0, 1) := by decide +kernel
theorem d_L_law_1319 : decode b_L_law 1319 = .ok (.iload 4, 2) := by decide +kernel
theorem d_L_law_1321 : decode b_L_law 1321 = .ok (.iconst 2, 1) := by decide +kernel
theorem d_L_law_1322 : decode b_L_law 1322 = .ok (.iadd, 1) := by decide +kernel
theorem d_L_law_1323 : decode b_L_law 1323 = .ok (.iaload, 1) := by decide +kernel
theorem d_L_law_1324 : decode b_L_law 1324 = .ok (.aload_n 0, 1) := by decide +kernel
theorem d_L_law_1325 : decode b_L_law 1325 = .ok (.iload 4, 2) := by decide +kernel
theorem d_L_law_1327 : decode b_L_law 1327 = .ok (.iconst 3, 1) := by decide +kernel
theorem d_L_law_1328 : decode b_L_law 1328 = .ok (.iadd, 1) := by decide +kernel
theorem d_L_law_1329 : decode b_L_law 1329 = .ok (.iaload, 1) := by decide +kernel
theorem d_L_law_1330 : decode b_L_law 1330 = .ok (.aload_n 0, 1) := by decide +kernel
theorem d_L_law_1331 : decode b_L_law 1331 = .ok (.iload 4, 2) := by decide +kernel
theorem d_L_law_1333 : decode b_L_law 1333 = .ok (.iconst 4, 1) := by decide +kernel
theorem d_L_law_1334 : decode b_L_law 1334 = .ok (.iadd, 1) := by decide +kernel
theorem d_L_law_1335 : decode b_L_law 1335 = .ok (.iaload, 1) := by decide +kernel
theorem d_L_law_1336 : decode b_L_law 1336 = .ok (.invokevirtual 142, 3) := by decide +kernel
theorem d_L_law_1339 : decode b_L_law 1339 = .ok (.if_icmp .eq 116, 3) := by decide +kernel
theorem d_L_law_1342 : decode b_L_law 1342 = .ok (.iconst 0, 1) := by decide +kernel
theorem d_L_law_1343 : decode b_L_law 1343 = .ok (.ireturn, 1) := by decide +kernel
theorem d_L_law_1344 : decode b_L_law 1344 = .ok (.aload_n 1, 1) := by decide +kernel
theorem d_L_law_1345 : decode b_L_law 1345 = .ok (.aload_n 0, 1) := by decide +kernel
theorem d_L_law_1346 : decode b_L_law 1346 = .ok (.iload 4, 2) := by decide +kernel
theorem d_L_law_1348 : decode b_L_law 1348 = .ok (.iconst 1, 1) := by decide +kernel
theorem d_L_law_1349 : decode b_L_law 1349 = .ok (.iadd, 1) := by decide +kernel
theorem d_L_law_1350 : decode b_L_law 1350 = .ok (.iaload, 1) := by decide +kernel
theorem d_L_law_1351 : decode b_L_law 1351 = .ok (.aload_n 0, 1) := by decide +kernel
theorem d_L_law_1352 : decode b_L_law 1352 = .ok (.iload 4, 2) := by decide +kernel
theorem d_L_law_1354 : decode b_L_law 1354 = .ok (.iconst 2, 1) := by decide +kernel
theorem d_L_law_1355 : decode b_L_law 1355 = .ok (.iadd, 1) := by decide +kernel
theorem d_L_law_1356 : decode b_L_law 1356 = .ok (.iaload, 1) := by decide +kernel
theorem d_L_law_1357 : decode b_L_law 1357 = .ok (.aload_n 0, 1) := by decide +kernel
theorem d_L_law_1358 : decode b_L_law 1358 = .ok (.iload 4, 2) := by decide +kernel
theorem d_L_law_1360 : decode b_L_law 1360 = .ok (.iconst 3, 1) := by decide +kernel
theorem d_L_law_1361 : decode b_L_law 1361 = .ok (.iadd, 1) := by decide +kernel
theorem d_L_law_1362 : decode b_L_law 1362 = .ok (.iaload, 1) := by decide +kernel
theorem d_L_law_1363 : decode b_L_law 1363 = .ok (.invokevirtual 143, 3) := by decide +kernel
theorem d_L_law_1366 : decode b_L_law 1366 = .ok (.aload_n 2, 1) := by decide +kernel
theorem d_L_law_1367 : decode b_L_law 1367 = .ok (.aload_n 0, 1) := by decide +kernel
theorem d_L_law_1368 : decode b_L_law 1368 = .ok (.iload 4, 2) := by decide +kernel
theorem d_L_law_1370 : decode b_L_law 1370 = .ok (.iconst 1, 1) := by decide +kernel
theorem d_L_law_1371 : decode b_L_law 1371 = .ok (.iadd, 1) := by decide +kernel
theorem d_L_law_1372 : decode b_L_law 1372 = .ok (.iaload, 1) := by decide +kernel
theorem d_L_law_1373 : decode b_L_law 1373 = .ok (.aload_n 0, 1) := by decide +kernel
theorem d_L_law_1374 : decode b_L_law 1374 = .ok (.iload 4, 2) := by decide +kernel
theorem d_L_law_1376 : decode b_L_law 1376 = .ok (.iconst 2, 1) := by decide +kernel
theorem d_L_law_1377 : decode b_L_law 1377 = .ok (.iadd, 1) := by decide +kernel
theorem d_L_law_1378 : decode b_L_law 1378 = .ok (.iaload, 1) := by decide +kernel
theorem d_L_law_1379 : decode b_L_law 1379 = .ok (.aload_n 0, 1) := by decide +kernel
theorem d_L_law_1380 : decode b_L_law 1380 = .ok (.iload 4, 2) := by decide +kernel
theorem d_L_law_1382 : decode b_L_law 1382 = .ok (.iconst 3, 1) := by decide +kernel
theorem d_L_law_1383 : decode b_L_law 1383 = .ok (.iadd, 1) := by decide +kernel
theorem d_L_law_1384 : decode b_L_law 1384 = .ok (.iaload, 1) := by decide +kernel
theorem d_L_law_1385 : decode b_L_law 1385 = .ok (.invokevirtual 146, 3) := by decide +kernel
theorem d_L_law_1388 : decode b_L_law 1388 = .ok (.if_icmp .eq 67, 3) := by decide +kernel
theorem d_L_law_1391 : decode b_L_law 1391 = .ok (.iconst 0, 1) := by decide +kernel
theorem d_L_law_1392 : decode b_L_law 1392 = .ok (.ireturn, 1) := by decide +kernel
theorem d_L_law_1393 : decode b_L_law 1393 = .ok (.aload_n 1, 1) := by decide +kernel
theorem d_L_law_1394 : decode b_L_law 1394 = .ok (.aload_n 0, 1) := by decide +kernel
theorem d_L_law_1395 : decode b_L_law 1395 = .ok (.iload 4, 2) := by decide +kernel
theorem d_L_law_1397 : decode b_L_law 1397 = .ok (.iconst 1, 1) := by decide +kernel
theorem d_L_law_1398 : decode b_L_law 1398 = .ok (.iadd, 1) := by decide +kernel
theorem d_L_law_1399 : decode b_L_law 1399 = .ok (.iaload, 1) := by decide +kernel
theorem d_L_law_1400 : decode b_L_law 1400 = .ok (.aload_n 0, 1) := by decide +kernel
theorem d_L_law_1401 : decode b_L_law 1401 = .ok (.iload 4, 2) := by decide +kernel
theorem d_L_law_1403 : decode b_L_law 1403 = .ok (.iconst 2, 1) := by decide +kernel
theorem d_L_law_1404 : decode b_L_law 1404 = .ok (.iadd, 1) := by decide +kernel
theorem d_L_law_1405 : decode b_L_law 1405 = .ok (.iaload, 1) := by decide +kernel
theorem d_L_law_1406 : decode b_L_law 1406 = .ok (.invokevirtual 147, 3) := by decide +kernel
theorem d_L_law_1409 : decode b_L_law 1409 = .ok (.aload_n 2, 1) := by decide +kernel
theorem d_L_law_1410 : decode b_L_law 1410 = .ok (.aload_n 0, 1) := by decide +kernel
theorem d_L_law_1411 : decode b_L_law 1411 = .ok (.iload 4, 2) := by decide +kernel
theorem d_L_law_1413 : decode b_L_law 1413 = .ok (.iconst 1, 1) := by decide +kernel
theorem d_L_law_1414 : decode b_L_law 1414 = .ok (.iadd, 1) := by decide +kernel
theorem d_L_law_1415 : decode b_L_law 1415 = .ok (.iaload, 1) := by decide +kernel
theorem d_L_law_1416 : decode b_L_law 1416 = .ok (.aload_n 0, 1) := by decide +kernel
theorem d_L_law_1417 : decode b_L_law 1417 = .ok (.iload 4, 2) := by decide +kernel
theorem d_L_law_1419 : decode b_L_law 1419 = .ok (.iconst 2, 1) := by decide +kernel
theorem d_L_law_1420 : decode b_L_law 1420 = .ok (.iadd, 1) := by decide +kernel
theorem d_L_law_1421 : decode b_L_law 1421 = .ok (.iaload, 1) := by decide +kernel
theorem d_L_law_1422 : decode b_L_law 1422 = .ok (.invokevirtual 150, 3) := by decide +kernel
theorem d_L_law_1425 : decode b_L_law 1425 = .ok (.if_icmp .eq 30, 3) := by decide +kernel
theorem d_L_law_1428 : decode b_L_law 1428 = .ok (.iconst 0, 1) := by decide +kernel
theorem d_L_law_1429 : decode b_L_law 1429 = .ok (.ireturn, 1) := by decide +kernel
theorem d_L_law_1430 : decode b_L_law 1430 = .ok (.aload_n 1, 1) := by decide +kernel
theorem d_L_law_1431 : decode b_L_law 1431 = .ok (.aload_n 0, 1) := by decide +kernel
theorem d_L_law_1432 : decode b_L_law 1432 = .ok (.iload 4, 2) := by decide +kernel
theorem d_L_law_1434 : decode b_L_law 1434 = .ok (.iconst 1, 1) := by decide +kernel
theorem d_L_law_1435 : decode b_L_law 1435 = .ok (.iadd, 1) := by decide +kernel
theorem d_L_law_1436 : decode b_L_law 1436 = .ok (.iaload, 1) := by decide +kernel
theorem d_L_law_1437 : decode b_L_law 1437 = .ok (.invokevirtual 151, 3) := by decide +kernel
theorem d_L_law_1440 : decode b_L_law 1440 = .ok (.aload_n 2, 1) := by decide +kernel
theorem d_L_law_1441 : decode b_L_law 1441 = .ok (.aload_n 0, 1) := by decide +kernel
theorem d_L_law_1442 : decode b_L_law 1442 = .ok (.iload 4, 2) := by decide +kernel
theorem d_L_law_1444 : decode b_L_law 1444 = .ok (.iconst 1, 1) := by decide +kernel
theorem d_L_law_1445 : decode b_L_law 1445 = .ok (.iadd, 1) := by decide +kernel
theorem d_L_law_1446 : decode b_L_law 1446 = .ok (.iaload, 1) := by decide +kernel
theorem d_L_law_1447 : decode b_L_law 1447 = .ok (.invokevirtual 154, 3) := by decide +kernel
theorem d_L_law_1450 : decode b_L_law 1450 = .ok (.if_icmp .eq 5, 3) := by decide +kernel
theorem d_L_law_1453 : decode b_L_law 1453 = .ok (.iconst 0, 1) := by decide +kernel
theorem d_L_law_1454 : decode b_L_law 1454 = .ok (.ireturn, 1) := by decide +kernel
theorem d_L_law_1455 : decode b_L_law 1455 = .ok (.iinc 4 7, 3) := by decide +kernel
theorem d_L_law_1458 : decode b_L_law 1458 = .ok (.goto (-1435), 3) := by decide +kernel
theorem d_L_law_1461 : decode b_L_law 1461 = .ok (.iconst 1, 1) := by decide +kernel
theorem d_L_law_1462 : decode b_L_law 1462 = .ok (.ireturn, 1) := by decide +kernel
end
section
/-! deterministic contracts: the answer and the heap behind it are said outright -/
def zD1 (v : Value) (G : zG) : zRes → zG → Prop := fun r G1 => r = .inl (some v) ∧ G1 = G
def zD0 (G : zG) : zRes → zG → Prop := fun r G1 => r = .inl none ∧ G1 = G
def zDx (E : String) (G : zG) : zRes → zG → Prop := fun r G1 => r = .inr E ∧ G1 = G
theorem zD1.i {v s : Int32} {G : zG} (h : v = s) : zD1 (.int s) G (.inl (some (.int v))) G := ⟨by rw [h], rfl⟩
theorem zD1.l {v s : Int64} {G : zG} (h : v = s) : zD1 (.long s) G (.inl (some (.long v))) G := ⟨by rw [h], rfl⟩
theorem zD1.v {v s : Value} {G : zG} (h : v = s) : zD1 s G (.inl (some v)) G := ⟨by rw [h], rfl⟩
theorem zD1.g {v s : Value} {G G' : zG} (h : v = s) (h2 : G = G') : zD1 s G' (.inl (some v)) G := ⟨by rw [h], h2⟩
theorem zD0.g {G G' : zG} (h2 : G = G') : zD0 G' (.inl none) G := ⟨rfl, h2⟩
theorem zput_k {G : zG} {a b : Nat} {c c' : zC} (h : b ≠ a) (hb : G b = some c) : zput G a c' b = some c := (zput_n h).trans hb
/-- the kind of a cell: cells of two kinds don't lie at one address -/
def zck (c : zC) : Nat := match c with
  | .inl o => 8 + o.1
  | .inr (.inl _) => 0
  | .inr (.inr (.inl _)) => 1
  | .inr (.inr (.inr (.inl _))) => 2
  | .inr (.inr (.inr (.inr x))) => x.1
theorem zne {G : zG} {a b : Nat} {c c' : zC} (ha : G a = some c) (hb : G b = some c') (h : (zck c == zck c') = false) : a ≠ b := fun e => by
  rw [e, hb] at ha
  cases ha
  rw [beq_self_eq_true] at h
  cases h
theorem zfr {G : zG} {a b : Nat} {c : zC} (ha : G a = none) (hb : G b = some c) : b ≠ a := fun e => by
  rw [e, ha] at hb
  cases hb
section ZCP
variable {g : zGt} {X : zX} {cc : ByteArray} {y : MethodName} {ret : Option FieldType} {tb : List (Nat × Nat × Nat × Nat)} {nl d mc ms : Nat} {Post : zRes → zG → Prop} {pc : Nat} {zl : List (Option Value)} {G : zG} {k n : Nat}
variable {y2 : MethodName} {cc2 : ByteArray} {nl2 : Nat} {ret2 : Option FieldType} {tb2 : List (Nat × Nat × Nat × Nat)} {mc2 ms2 idx : Nat} {av rest st : List Value} {G2 : zG} {w : Value}
theorem zr_pS (hX : zOK g X cc y ret tb nl d mc ms) (hM : zMet g y2 cc2 nl2 ret2 tb2 (d - 1) 0 0 av G (zD1 w G)) (hw1 : zlk2 y.cls idx y2) (hw2 : Cond.static y2 ∈ zTW) (hF : zFit y2 cc2 nl2 ret2 tb2 av.length) (hst : st = av.reverse ++ rest) (hwt : (rest.map fun v => v.category).sum ≤ 12) (hd1 : 1 ≤ d) (hk : k ≤ mc) (hn : n ≤ ms) (hd : decode cc pc = .ok (.invokestatic idx, 3))
    (kk : zw g X Post (pc + 3) zl (w :: rest) G k n) : zw g X Post pc zl st G k n :=
  zr_callS hX hM hw1 hw2 hF hst hwt hd1 hk hn hd (fun v G1 h => by obtain ⟨h1, h2⟩ := h; cases h1; subst h2; exact kk) (fun E G1 h => by obtain ⟨h1, -⟩ := h; cases h1)
theorem zr_uS1 (hX : zOK g X cc y ret tb nl d mc ms) (hM : zMet g y2 cc2 nl2 ret2 tb2 (d - 1) mc2 ms2 av G (zD1 w G2)) (hw1 : zlk2 y.cls idx y2) (hw2 : Cond.static y2 ∈ zTW) (hF : zFit y2 cc2 nl2 ret2 tb2 av.length) (hst : st = av.reverse ++ rest) (hwt : (rest.map fun v => v.category).sum ≤ 12) (hd1 : 1 ≤ d) (hk : k + mc2 ≤ mc) (hn : n + ms2 ≤ ms) (hd : decode cc pc = .ok (.invokestatic idx, 3))
    (kk : zw g X Post (pc + 3) zl (w :: rest) G2 (k + mc2) (n + ms2)) : zw g X Post pc zl st G k n :=
  zr_callS hX hM hw1 hw2 hF hst hwt hd1 hk hn hd (fun v G1 h => by obtain ⟨h1, h2⟩ := h; cases h1; subst h2; exact kk) (fun E G1 h => by obtain ⟨h1, -⟩ := h; cases h1)
theorem zr_uS0 (hX : zOK g X cc y ret tb nl d mc ms) (hM : zMet g y2 cc2 nl2 ret2 tb2 (d - 1) mc2 ms2 av G (zD0 G2)) (hw1 : zlk2 y.cls idx y2) (hw2 : Cond.static y2 ∈ zTW) (hF : zFit y2 cc2 nl2 ret2 tb2 av.length) (hst : st = av.reverse ++ rest) (hwt : (rest.map fun v => v.category).sum ≤ 12) (hd1 : 1 ≤ d) (hk : k + mc2 ≤ mc) (hn : n + ms2 ≤ ms) (hd : decode cc pc = .ok (.invokestatic idx, 3))
    (kk : zw g X Post (pc + 3) zl rest G2 (k + mc2) (n + ms2)) : zw g X Post pc zl st G k n :=
  zr_callS hX hM hw1 hw2 hF hst hwt hd1 hk hn hd (fun v G1 h => by obtain ⟨h1, h2⟩ := h; cases h1; subst h2; exact kk) (fun E G1 h => by obtain ⟨h1, -⟩ := h; cases h1)
variable {b ci M : Nat} {fs : List Value} {C : String} {T9 : u_T}
theorem zr_pV (hX : zOK g X cc y ret tb nl d mc ms) (hM : zMet g y2 cc2 nl2 ret2 tb2 (d - 1) 0 0 (.ref b :: av) G (zD1 w G)) (hw1 : zlk2 y.cls idx y2) (hw2 : Cond.instanceMethod y2 ∈ zTW) (hw3 : Cond.selects C y2 y2 ∈ zTW) (hF : zFit y2 cc2 nl2 ret2 tb2 av.length) (hc : zcl[ci]? = some (C, T9, M)) (hG : G b = some (zO ci fs)) (hst : st = av.reverse ++ .ref b :: rest) (hwt : (rest.map fun v => v.category).sum ≤ 12) (hd1 : 1 ≤ d) (hk : k ≤ mc) (hn : n ≤ ms) (hd : decode cc pc = .ok (.invokevirtual idx, 3))
    (kk : zw g X Post (pc + 3) zl (w :: rest) G k n) : zw g X Post pc zl st G k n :=
  zr_callV hX hM hw1 hw2 hw3 hF hc hG hst hwt hd1 hk hn hd (fun v G1 h => by obtain ⟨h1, h2⟩ := h; cases h1; subst h2; exact kk) (fun E G1 h => by obtain ⟨h1, -⟩ := h; cases h1)
theorem zr_uV1 (hX : zOK g X cc y ret tb nl d mc ms) (hM : zMet g y2 cc2 nl2 ret2 tb2 (d - 1) mc2 ms2 (.ref b :: av) G (zD1 w G2)) (hw1 : zlk2 y.cls idx y2) (hw2 : Cond.instanceMethod y2 ∈ zTW) (hw3 : Cond.selects C y2 y2 ∈ zTW) (hF : zFit y2 cc2 nl2 ret2 tb2 av.length) (hc : zcl[ci]? = some (C, T9, M)) (hG : G b = some (zO ci fs)) (hst : st = av.reverse ++ .ref b :: rest) (hwt : (rest.map fun v => v.category).sum ≤ 12) (hd1 : 1 ≤ d) (hk : k + mc2 ≤ mc) (hn : n + ms2 ≤ ms) (hd : decode cc pc = .ok (.invokevirtual idx, 3))
    (kk : zw g X Post (pc + 3) zl (w :: rest) G2 (k + mc2) (n + ms2)) : zw g X Post pc zl st G k n :=
  zr_callV hX hM hw1 hw2 hw3 hF hc hG hst hwt hd1 hk hn hd (fun v G1 h => by obtain ⟨h1, h2⟩ := h; cases h1; subst h2; exact kk) (fun E G1 h => by obtain ⟨h1, -⟩ := h; cases h1)
theorem zr_uV0 (hX : zOK g X cc y ret tb nl d mc ms) (hM : zMet g y2 cc2 nl2 ret2 tb2 (d - 1) mc2 ms2 (.ref b :: av) G (zD0 G2)) (hw1 : zlk2 y.cls idx y2) (hw2 : Cond.instanceMethod y2 ∈ zTW) (hw3 : Cond.selects C y2 y2 ∈ zTW) (hF : zFit y2 cc2 nl2 ret2 tb2 av.length) (hc : zcl[ci]? = some (C, T9, M)) (hG : G b = some (zO ci fs)) (hst : st = av.reverse ++ .ref b :: rest) (hwt : (rest.map fun v => v.category).sum ≤ 12) (hd1 : 1 ≤ d) (hk : k + mc2 ≤ mc) (hn : n + ms2 ≤ ms) (hd : decode cc pc = .ok (.invokevirtual idx, 3))
    (kk : zw g X Post (pc + 3) zl rest G2 (k + mc2) (n + ms2)) : zw g X Post pc zl st G k n :=
  zr_callV hX hM hw1 hw2 hw3 hF hc hG hst hwt hd1 hk hn hd (fun v G1 h => by obtain ⟨h1, h2⟩ := h; cases h1; subst h2; exact kk) (fun E G1 h => by obtain ⟨h1, -⟩ := h; cases h1)
theorem zr_uI0 (hX : zOK g X cc y ret tb nl d mc ms) (hM : zMet g y2 cc2 nl2 none [] (d - 1) mc2 ms2 (.ref b :: av) G (zD0 G2)) (hw1 : zlk2 y.cls idx y2) (hy1 : y2.name = "<init>") (hw2 : Cond.instanceMethod y2 ∈ zTW) (hF : zFit y2 cc2 nl2 none [] av.length) (hst : st = av.reverse ++ .ref b :: rest) (hwt : (rest.map fun v => v.category).sum ≤ 12) (hd1 : 1 ≤ d) (hk : k + mc2 ≤ mc) (hn : n + ms2 ≤ ms) (hd : decode cc pc = .ok (.invokespecial idx, 3))
    (kk : zw g X Post (pc + 3) zl rest G2 (k + mc2) (n + ms2)) : zw g X Post pc zl st G k n :=
  zr_callI hX hM hw1 hy1 hw2 hF hst hwt hd1 hk hn hd (fun v G1 h => by obtain ⟨h1, h2⟩ := h; cases h1; subst h2; exact kk) (fun E G1 h => by obtain ⟨h1, -⟩ := h; cases h1)
end ZCP
/-- a contract for a larger end -/
theorem zMet.mono {g : zGt} {y : MethodName} {cc : ByteArray} {nl : Nat} {ret : Option FieldType} {tb : List (Nat × Nat × Nat × Nat)} {d mc ms : Nat} {av : List Value} {G : zG} {Post Post2 : zRes → zG → Prop} (h : zMet g y cc nl ret tb d mc ms av G Post) (hp : ∀ r G1, Post r G1 → Post2 r G1) : zMet g y cc nl ret tb d mc ms av G Post2 := by
  intro hg sz p e ha hc hk s m args below hf happ hP hK
  obtain ⟨n, o, h1, h2, h3, r, G1, L, q1, q2⟩ := h hg sz p e ha hc hk s m args below hf happ hP hK
  exact ⟨n, o, h1, h2, h3, r, G1, L, hp r G1 q1, q2⟩
/-- references: an address or null -/
def zisr (v : Value) : Bool := match v with
  | .ref _ => true
  | .null => true
  | _ => false
theorem zisr_or {v : Value} (h : zisr v = true) : v = .null ∨ ∃ a, v = .ref a := by
  cases v with
  | ref a => exact Or.inr ⟨a, rfl⟩
  | null => exact Or.inl rfl
  | _ => cases h
theorem zisr_rf (o : Option Nat) : zisr (va_rf o) = true := by
  cases o <;> rfl
section ZRF
variable {g : zGt} {X : zX} {cc : ByteArray} {y : MethodName} {ret : Option FieldType} {tb : List (Nat × Nat × Nat × Nat)} {nl d mc ms : Nat} {Post : zRes → zG → Prop} {pc : Nat} {zl : List (Option Value)} {st : List Value} {G : zG} {k n : Nat}
theorem zr_vload_n (hX : zOK g X cc y ret tb nl d mc ms) {i : Fin 4} {v : Value} (hl : zlk zl (i : Nat) = some v) (hv : zisr v = true) (hd : decode cc pc = .ok (.aload_n i, 1)) (kk : zw g X Post (pc + 1) zl (v :: st) G k n) : zw g X Post pc zl st G k n := by
  rcases zisr_or hv with rfl | ⟨a, rfl⟩
  · exact zr_aload_nN hX hl hd kk
  · exact zr_aload_n hX hl hd kk
theorem zr_vload (hX : zOK g X cc y ret tb nl d mc ms) {i : Nat} {v : Value} (hl : zlk zl i = some v) (hv : zisr v = true) (hd : decode cc pc = .ok (.aload i, 2)) (kk : zw g X Post (pc + 2) zl (v :: st) G k n) : zw g X Post pc zl st G k n := by
  rcases zisr_or hv with rfl | ⟨a, rfl⟩
  · exact zr_aloadN hX hl hd kk
  · exact zr_aload hX hl hd kk
theorem zr_vstore_n (hX : zOK g X cc y ret tb nl d mc ms) {i : Fin 4} {v : Value} (hv : zisr v = true) (hi : (i : Nat) < nl) (hd : decode cc pc = .ok (.astore_n i, 1)) (kk : zw g X Post (pc + 1) (zst zl (i : Nat) v) st G k n) : zw g X Post pc zl (v :: st) G k n := by
  rcases zisr_or hv with rfl | ⟨a, rfl⟩
  · exact zr_astore_nN hX hi hd kk
  · exact zr_astore_n hX hi hd kk
theorem zr_vstore (hX : zOK g X cc y ret tb nl d mc ms) {i : Nat} {v : Value} (hv : zisr v = true) (hi : i < nl) (hd : decode cc pc = .ok (.astore i, 2)) (kk : zw g X Post (pc + 2) (zst zl i v) st G k n) : zw g X Post pc zl (v :: st) G k n := by
  rcases zisr_or hv with rfl | ⟨a, rfl⟩
  · exact zr_astoreN hX hi hd kk
  · exact zr_astore hX hi hd kk
theorem zr_vifnull (hX : zOK g X cc y ret tb nl d mc ms) {v : Value} (hv : zisr v = true) {off : Int} {tgt : Nat} (hd : decode cc pc = .ok (.ifnull off, 3)) (ht : (pc : Int) + off = (tgt : Int)) (kt : v = .null → zw g X Post tgt zl st G k n) (kf : ∀ a, v = .ref a → zw g X Post (pc + 3) zl st G k n) : zw g X Post pc zl (v :: st) G k n := by
  rcases zisr_or hv with rfl | ⟨a, rfl⟩
  · exact zr_ifnullN hX ht hd (kt rfl)
  · exact zr_ifnull hX hd (kf a rfl)
theorem zr_vifnonnull (hX : zOK g X cc y ret tb nl d mc ms) {v : Value} (hv : zisr v = true) {off : Int} {tgt : Nat} (hd : decode cc pc = .ok (.ifnonnull off, 3)) (ht : (pc : Int) + off = (tgt : Int)) (kt : ∀ a, v = .ref a → zw g X Post tgt zl st G k n) (kf : v = .null → zw g X Post (pc + 3) zl st G k n) : zw g X Post pc zl (v :: st) G k n := by
  rcases zisr_or hv with rfl | ⟨a, rfl⟩
  · exact zr_ifnonnullN hX hd (kf rfl)
  · exact zr_ifnonnull hX ht hd (kt a rfl)
theorem zr_rret (hX : zOK g X cc y ret tb nl d mc ms) {rt : FieldType} (hrt : ret = some rt) (hro : (∃ n, rt = .object n) ∨ ∃ t, rt = .array t) {v : Value} (hv : zisr v = true) (hd : decode cc pc = .ok (.areturn, 1)) (hp : Post (.inl (some v)) G) : zw g X Post pc zl [v] G k n := zr_aret hX hrt hro (zisr_or hv) hd hp
end ZRF
end
section
theorem kl_S : ∀ k, k < 14 → u_lay "SurveyStore" zF_S k ∈ zTW
  | 0, _ => q117
  | 1, _ => q119
  | 2, _ => q121
  | 3, _ => q123
  | 4, _ => q125
  | 5, _ => q127
  | 6, _ => q129
  | 7, _ => q131
  | 8, _ => q133
  | 9, _ => q135
  | 10, _ => q137
  | 11, _ => q139
  | 12, _ => q141
  | 13, _ => q143
  | m + 14, h => absurd h (by omega)
theorem k_S : zCl 0 "SurveyStore" zF_S 14 zt_S := ⟨rfl, fun w hw => by obtain ⟨k, hk, rfl⟩ := List.mem_map.mp hw; exact kl_S k (List.mem_range.mp hk), by decide +kernel, by decide +kernel⟩
theorem kl_C : ∀ k, k < 4 → u_lay "SurveyStore$Commit" zF_C k ∈ zTW
  | 0, _ => q47
  | 1, _ => q49
  | 2, _ => q51
  | 3, _ => q53
  | m + 4, h => absurd h (by omega)
theorem k_C : zCl 1 "SurveyStore$Commit" zF_C 4 zt_C := ⟨rfl, fun w hw => by obtain ⟨k, hk, rfl⟩ := List.mem_map.mp hw; exact kl_C k (List.mem_range.mp hk), by decide +kernel, by decide +kernel⟩
theorem kl_B : ∀ k, k < 5 → u_lay "SurveyStore$Branch" zF_B k ∈ zTW
  | 0, _ => q73
  | 1, _ => q75
  | 2, _ => q77
  | 3, _ => q79
  | 4, _ => q81
  | m + 5, h => absurd h (by omega)
theorem k_B : zCl 2 "SurveyStore$Branch" zF_B 5 zt_B := ⟨rfl, fun w hw => by obtain ⟨k, hk, rfl⟩ := List.mem_map.mp hw; exact kl_B k (List.mem_range.mp hk), by decide +kernel, by decide +kernel⟩
theorem kl_K : ∀ k, k < 7 → u_lay "SurveyStore$Conflicts" zF_K k ∈ zTW
  | 0, _ => q597
  | 1, _ => q599
  | 2, _ => q601
  | 3, _ => q603
  | 4, _ => q605
  | 5, _ => q607
  | 6, _ => q609
  | m + 7, h => absurd h (by omega)
theorem k_K : zCl 3 "SurveyStore$Conflicts" zF_K 7 zt_K := ⟨rfl, fun w hw => by obtain ⟨k, hk, rfl⟩ := List.mem_map.mp hw; exact kl_K k (List.mem_range.mp hk), by decide +kernel, by decide +kernel⟩
theorem kl_R : ∀ k, k < 1 → u_lay "SurveyStore$BaseRow" zF_R k ∈ zTW
  | 0, _ => q556
  | m + 1, h => absurd h (by omega)
theorem k_R : zCl 4 "SurveyStore$BaseRow" zF_R 1 zt_R := ⟨rfl, fun w hw => by obtain ⟨k, hk, rfl⟩ := List.mem_map.mp hw; exact kl_R k (List.mem_range.mp hk), by decide +kernel, by decide +kernel⟩
theorem kl_T : ∀ k, k < 3 → u_lay "SurveyStore$BlockTable" zF_T k ∈ zTW
  | 0, _ => q309
  | 1, _ => q311
  | 2, _ => q313
  | m + 3, h => absurd h (by omega)
theorem k_T : zCl 5 "SurveyStore$BlockTable" zF_T 3 zt_T := ⟨rfl, fun w hw => by obtain ⟨k, hk, rfl⟩ := List.mem_map.mp hw; exact kl_T k (List.mem_range.mp hk), by decide +kernel, by decide +kernel⟩
theorem kl_M : ∀ k, k < 28 → u_lay "SurveyStoreModel" zF_M k ∈ zTW
  | 0, _ => q681
  | 1, _ => q683
  | 2, _ => q685
  | 3, _ => q687
  | 4, _ => q689
  | 5, _ => q691
  | 6, _ => q693
  | 7, _ => q695
  | 8, _ => q697
  | 9, _ => q699
  | 10, _ => q701
  | 11, _ => q703
  | 12, _ => q705
  | 13, _ => q707
  | 14, _ => q709
  | 15, _ => q711
  | 16, _ => q713
  | 17, _ => q715
  | 18, _ => q717
  | 19, _ => q719
  | 20, _ => q721
  | 21, _ => q723
  | 22, _ => q725
  | 23, _ => q727
  | 24, _ => q729
  | 25, _ => q731
  | 26, _ => q733
  | 27, _ => q735
  | m + 28, h => absurd h (by omega)
theorem k_M : zCl 6 "SurveyStoreModel" zF_M 28 zt_M := ⟨rfl, fun w hw => by obtain ⟨k, hk, rfl⟩ := List.mem_map.mp hw; exact kl_M k (List.mem_range.mp hk), by decide +kernel, by decide +kernel⟩
theorem f_S_init : zFit y_S_init b_S_init 2 none [] 0 := ⟨q1, q20, ⟨by decide, by decide⟩, by decide +kernel, by decide⟩
theorem f_A_fillJ : zFit y_A_fillJ b_A_fillJ 5 none [] 2 := ⟨q2, q33, ⟨by decide, by decide⟩, by decide +kernel, by decide⟩
theorem f_C_init : zFit y_C_init b_C_init 5 none [] 4 := ⟨q3, q37, ⟨by decide, by decide⟩, by decide +kernel, by decide⟩
theorem f_B_init : zFit y_B_init b_B_init 1 none [] 0 := ⟨q4, q61, ⟨by decide, by decide⟩, by decide +kernel, by decide⟩
theorem f_B_startAt : zFit y_B_startAt b_B_startAt 3 none [] 2 := ⟨q4, q87, ⟨by decide, by decide⟩, by decide +kernel, by decide⟩
theorem f_B_restAt : zFit y_B_restAt b_B_restAt 2 none [] 1 := ⟨q4, q94, ⟨by decide, by decide⟩, by decide +kernel, by decide⟩
theorem f_K_forget : zFit y_K_forget b_K_forget 1 none [] 0 := ⟨q14, q98, ⟨by decide, by decide⟩, by decide +kernel, by decide⟩
theorem f_A_fillI : zFit y_A_fillI b_A_fillI 4 none [] 2 := ⟨q2, q102, ⟨by decide, by decide⟩, by decide +kernel, by decide⟩
theorem f_S_kind : zFit y_S_kind b_S_kind 3 (some .boolean) [] 2 := ⟨q1, q149, ⟨by decide, by decide⟩, by decide +kernel, by decide⟩
theorem f_S_isLayer : zFit y_S_isLayer b_S_isLayer 1 (some .boolean) [] 1 := ⟨q1, q152, ⟨by decide, by decide⟩, by decide +kernel, by decide⟩
theorem f_S_drop : zFit y_S_drop b_S_drop 3 (some .boolean) [] 1 := ⟨q1, q156, ⟨by decide, by decide⟩, by decide +kernel, by decide⟩
theorem f_S_branchAt : zFit y_S_branchAt b_S_branchAt 2 (some (.object "SurveyStore$Branch")) [] 1 := ⟨q1, q160, ⟨by decide, by decide⟩, by decide +kernel, by decide⟩
theorem f_S_region : zFit y_S_region b_S_region 5 (some .boolean) [] 4 := ⟨q1, q164, ⟨by decide, by decide⟩, by decide +kernel, by decide⟩
theorem f_S_fits : zFit y_S_fits b_S_fits 2 (some .boolean) [] 2 := ⟨q1, q167, ⟨by decide, by decide⟩, by decide +kernel, by decide⟩
theorem f_S_corner : zFit y_S_corner b_S_corner 4 (some .boolean) [] 3 := ⟨q1, q171, ⟨by decide, by decide⟩, by decide +kernel, by decide⟩
theorem f_S_isPoint : zFit y_S_isPoint b_S_isPoint 1 (some .boolean) [] 1 := ⟨q1, q174, ⟨by decide, by decide⟩, by decide +kernel, by decide⟩
theorem f_S_entry : zFit y_S_entry b_S_entry 4 (some .boolean) [] 3 := ⟨q1, q178, ⟨by decide, by decide⟩, by decide +kernel, by decide⟩
theorem f_S_isValue : zFit y_S_isValue b_S_isValue 1 (some .boolean) [] 1 := ⟨q1, q181, ⟨by decide, by decide⟩, by decide +kernel, by decide⟩
theorem f_S_conflict : zFit y_S_conflict b_S_conflict 5 (some .int) [] 3 := ⟨q1, q187, ⟨by decide, by decide⟩, by decide +kernel, by decide⟩
theorem f_K_tell : zFit y_K_tell b_K_tell 3 (some .int) [] 2 := ⟨q14, q191, ⟨by decide, by decide⟩, by decide +kernel, by decide⟩
theorem f_K_has : zFit y_K_has b_K_has 2 (some .boolean) [] 1 := ⟨q14, q195, ⟨by decide, by decide⟩, by decide +kernel, by decide⟩
theorem f_S_layerOf : zFit y_S_layerOf b_S_layerOf 1 (some .int) [] 1 := ⟨q1, q199, ⟨by decide, by decide⟩, by decide +kernel, by decide⟩
theorem f_S_xOf : zFit y_S_xOf b_S_xOf 1 (some .int) [] 1 := ⟨q1, q202, ⟨by decide, by decide⟩, by decide +kernel, by decide⟩
theorem f_S_yOf : zFit y_S_yOf b_S_yOf 1 (some .int) [] 1 := ⟨q1, q205, ⟨by decide, by decide⟩, by decide +kernel, by decide⟩
theorem f_S_value : zFit y_S_value b_S_value 5 (some .int) [] 4 := ⟨q1, q209, ⟨by decide, by decide⟩, by decide +kernel, by decide⟩
theorem f_S_cellAt : zFit y_S_cellAt b_S_cellAt 6 (some .long) [] 4 := ⟨q1, q213, ⟨by decide, by decide⟩, by decide +kernel, by decide⟩
theorem f_S_cellsOf : zFit y_S_cellsOf b_S_cellsOf 4 (some (.array .long)) [] 1 := ⟨q1, q217, ⟨by decide, by decide⟩, by decide +kernel, by decide⟩
theorem f_S_commitAt : zFit y_S_commitAt b_S_commitAt 2 (some (.object "SurveyStore$Commit")) [] 1 := ⟨q1, q221, ⟨by decide, by decide⟩, by decide +kernel, by decide⟩
theorem f_S_branchOfPlace : zFit y_S_branchOfPlace b_S_branchOfPlace 2 (some (.object "SurveyStore$Branch")) [] 1 := ⟨q1, q225, ⟨by decide, by decide⟩, by decide +kernel, by decide⟩
theorem f_S_isCoordinate : zFit y_S_isCoordinate b_S_isCoordinate 1 (some .boolean) [] 1 := ⟨q1, q228, ⟨by decide, by decide⟩, by decide +kernel, by decide⟩
theorem f_S_indexOf : zFit y_S_indexOf b_S_indexOf 3 (some .int) [] 3 := ⟨q1, q231, ⟨by decide, by decide⟩, by decide +kernel, by decide⟩
theorem f_S_valueOf : zFit y_S_valueOf b_S_valueOf 2 (some .int) [] 1 := ⟨q1, q234, ⟨by decide, by decide⟩, by decide +kernel, by decide⟩
theorem f_S_origin : zFit y_S_origin b_S_origin 8 (some .int) [] 5 := ⟨q1, q238, ⟨by decide, by decide⟩, by decide +kernel, by decide⟩
theorem f_S_originCommitOf : zFit y_S_originCommitOf b_S_originCommitOf 2 (some .int) [] 1 := ⟨q1, q241, ⟨by decide, by decide⟩, by decide +kernel, by decide⟩
theorem f_S_originIndexOf : zFit y_S_originIndexOf b_S_originIndexOf 2 (some .int) [] 1 := ⟨q1, q244, ⟨by decide, by decide⟩, by decide +kernel, by decide⟩
theorem f_S_differing : zFit y_S_differing b_S_differing 8 (some .int) [] 3 := ⟨q1, q251, ⟨by decide, by decide⟩, by decide +kernel, by decide⟩
theorem f_S_differs : zFit y_S_differs b_S_differs 10 (some .int) [] 4 := ⟨q1, q255, ⟨by decide, by decide⟩, by decide +kernel, by decide⟩
theorem f_S_nearest : zFit y_S_nearest b_S_nearest 7 (some .int) [] 3 := ⟨q1, q259, ⟨by decide, by decide⟩, by decide +kernel, by decide⟩
theorem f_S_nearestOf : zFit y_S_nearestOf b_S_nearestOf 7 (some .int) [] 2 := ⟨q1, q263, ⟨by decide, by decide⟩, by decide +kernel, by decide⟩
theorem f_S_contains : zFit y_S_contains b_S_contains 2 (some .boolean) [] 2 := ⟨q1, q266, ⟨by decide, by decide⟩, by decide +kernel, by decide⟩
theorem f_S_ancestorsOf : zFit y_S_ancestorsOf b_S_ancestorsOf 3 (some .int) [] 1 := ⟨q1, q270, ⟨by decide, by decide⟩, by decide +kernel, by decide⟩
theorem f_S_about : zFit y_S_about b_S_about 5 (some .int) [] 2 := ⟨q1, q274, ⟨by decide, by decide⟩, by decide +kernel, by decide⟩
theorem f_S_aboutCommit : zFit y_S_aboutCommit b_S_aboutCommit 4 (some .int) [] 3 := ⟨q1, q278, ⟨by decide, by decide⟩, by decide +kernel, by decide⟩
theorem f_S_childrenOf : zFit y_S_childrenOf b_S_childrenOf 5 (some .int) [] 1 := ⟨q1, q282, ⟨by decide, by decide⟩, by decide +kernel, by decide⟩
theorem f_C_hasParent : zFit y_C_hasParent b_C_hasParent 2 (some .boolean) [] 1 := ⟨q3, q286, ⟨by decide, by decide⟩, by decide +kernel, by decide⟩
theorem f_S_aboutBranch : zFit y_S_aboutBranch b_S_aboutBranch 3 (some .int) [] 2 := ⟨q1, q290, ⟨by decide, by decide⟩, by decide +kernel, by decide⟩
theorem f_S_isChanged : zFit y_S_isChanged b_S_isChanged 4 (some .boolean) [] 1 := ⟨q1, q294, ⟨by decide, by decide⟩, by decide +kernel, by decide⟩
theorem f_S_blocks : zFit y_S_blocks b_S_blocks 4 (some .int) [] 1 := ⟨q1, q298, ⟨by decide, by decide⟩, by decide +kernel, by decide⟩
theorem f_T_init : zFit y_T_init b_T_init 1 none [] 0 := ⟨q15, q303, ⟨by decide, by decide⟩, by decide +kernel, by decide⟩
theorem f_T_forget : zFit y_T_forget b_T_forget 1 none [] 0 := ⟨q15, q319, ⟨by decide, by decide⟩, by decide +kernel, by decide⟩
theorem f_T_addAll : zFit y_T_addAll b_T_addAll 5 none [] 2 := ⟨q15, q324, ⟨by decide, by decide⟩, by decide +kernel, by decide⟩
theorem f_T_read : zFit y_T_read b_T_read 7 (some .boolean) [] 2 := ⟨q15, q329, ⟨by decide, by decide⟩, by decide +kernel, by decide⟩
theorem f_T_keepIfNew : zFit y_T_keepIfNew b_T_keepIfNew 3 none [] 0 := ⟨q15, q335, ⟨by decide, by decide⟩, by decide +kernel, by decide⟩
theorem f_T_hash : zFit y_T_hash b_T_hash 5 (some .int) [] 1 := ⟨q15, q339, ⟨by decide, by decide⟩, by decide +kernel, by decide⟩
theorem f_T_isSame : zFit y_T_isSame b_T_isSame 6 (some .boolean) [] 2 := ⟨q15, q344, ⟨by decide, by decide⟩, by decide +kernel, by decide⟩
theorem f_L_branch : zFit y_L_branch b_L_branch 4 (some .int) [(0, 6, 9, 13), (0, 6, 12, 15)] 3 := ⟨q0, q347, ⟨by decide, by decide⟩, by decide +kernel, by decide⟩
theorem f_S_branch : zFit y_S_branch b_S_branch 4 none [] 2 := ⟨q1, q353, ⟨by decide, by decide⟩, by decide +kernel, by decide⟩
theorem f_L_paint : zFit y_L_paint b_L_paint 5 (some .int) [(0, 7, 10, 13)] 4 := ⟨q0, q433, ⟨by decide, by decide⟩, by decide +kernel, by decide⟩
theorem f_S_paint : zFit y_S_paint b_S_paint 7 none [] 3 := ⟨q1, q437, ⟨by decide, by decide⟩, by decide +kernel, by decide⟩
theorem f_S_branchToEdit : zFit y_S_branchToEdit b_S_branchToEdit 4 (some (.object "SurveyStore$Branch")) [] 2 := ⟨q1, q441, ⟨by decide, by decide⟩, by decide +kernel, by decide⟩
theorem f_S_refuseUnlessValue : zFit y_S_refuseUnlessValue b_S_refuseUnlessValue 1 none [] 1 := ⟨q1, q444, ⟨by decide, by decide⟩, by decide +kernel, by decide⟩
theorem f_B_set : zFit y_B_set b_B_set 3 none [] 2 := ⟨q4, q448, ⟨by decide, by decide⟩, by decide +kernel, by decide⟩
theorem f_S_originOf : zFit y_S_originOf b_S_originOf 2 (some .int) [] 2 := ⟨q1, q453, ⟨by decide, by decide⟩, by decide +kernel, by decide⟩
theorem f_S_cellOf : zFit y_S_cellOf b_S_cellOf 2 (some .long) [] 2 := ⟨q1, q456, ⟨by decide, by decide⟩, by decide +kernel, by decide⟩
theorem f_L_polygon : zFit y_L_polygon b_L_polygon 6 (some .int) [(0, 9, 12, 13)] 5 := ⟨q0, q459, ⟨by decide, by decide⟩, by decide +kernel, by decide⟩
theorem f_S_polygon : zFit y_S_polygon b_S_polygon 8 none [] 4 := ⟨q1, q463, ⟨by decide, by decide⟩, by decide +kernel, by decide⟩
theorem f_S_isInside : zFit y_S_isInside b_S_isInside 6 (some .boolean) [] 3 := ⟨q1, q467, ⟨by decide, by decide⟩, by decide +kernel, by decide⟩
theorem f_S_isRightOf : zFit y_S_isRightOf b_S_isRightOf 11 (some .boolean) [] 4 := ⟨q1, q471, ⟨by decide, by decide⟩, by decide +kernel, by decide⟩
theorem f_L_copy : zFit y_L_copy b_L_copy 8 (some .int) [(0, 13, 16, 13)] 7 := ⟨q0, q474, ⟨by decide, by decide⟩, by decide +kernel, by decide⟩
theorem f_S_copy : zFit y_S_copy b_S_copy 11 none [] 6 := ⟨q1, q478, ⟨by decide, by decide⟩, by decide +kernel, by decide⟩
theorem f_L_map : zFit y_L_map b_L_map 4 (some .int) [(0, 6, 9, 13)] 3 := ⟨q0, q482, ⟨by decide, by decide⟩, by decide +kernel, by decide⟩
theorem f_S_map : zFit y_S_map b_S_map 8 none [] 2 := ⟨q1, q486, ⟨by decide, by decide⟩, by decide +kernel, by decide⟩
theorem f_S_mapped : zFit y_S_mapped b_S_mapped 3 (some .int) [] 1 := ⟨q1, q490, ⟨by decide, by decide⟩, by decide +kernel, by decide⟩
theorem f_S_setIfOther : zFit y_S_setIfOther b_S_setIfOther 3 none [] 3 := ⟨q1, q493, ⟨by decide, by decide⟩, by decide +kernel, by decide⟩
theorem f_L_combine : zFit y_L_combine b_L_combine 6 (some .int) [(0, 9, 12, 13)] 5 := ⟨q0, q496, ⟨by decide, by decide⟩, by decide +kernel, by decide⟩
theorem f_S_combine : zFit y_S_combine b_S_combine 11 none [] 4 := ⟨q1, q500, ⟨by decide, by decide⟩, by decide +kernel, by decide⟩
theorem f_S_combined : zFit y_S_combined b_S_combined 3 (some .int) [] 3 := ⟨q1, q503, ⟨by decide, by decide⟩, by decide +kernel, by decide⟩
theorem f_L_commit : zFit y_L_commit b_L_commit 4 (some .int) [(0, 9, 12, 13), (0, 9, 15, 15)] 3 := ⟨q0, q512, ⟨by decide, by decide⟩, by decide +kernel, by decide⟩
theorem f_S_commit : zFit y_S_commit b_S_commit 5 (some .int) [] 1 := ⟨q1, q516, ⟨by decide, by decide⟩, by decide +kernel, by decide⟩
theorem f_B_hasUnsettled : zFit y_B_hasUnsettled b_B_hasUnsettled 1 (some .boolean) [] 0 := ⟨q4, q520, ⟨by decide, by decide⟩, by decide +kernel, by decide⟩
theorem f_S_claimPending : zFit y_S_claimPending b_S_claimPending 3 none [] 2 := ⟨q1, q523, ⟨by decide, by decide⟩, by decide +kernel, by decide⟩
theorem f_L_merge : zFit y_L_merge b_L_merge 5 (some .int) [(0, 10, 13, 13), (0, 10, 17, 15)] 4 := ⟨q0, q536, ⟨by decide, by decide⟩, by decide +kernel, by decide⟩
theorem f_S_merge : zFit y_S_merge b_S_merge 7 (some .int) [] 2 := ⟨q1, q540, ⟨by decide, by decide⟩, by decide +kernel, by decide⟩
theorem f_S_baseOf : zFit y_S_baseOf b_S_baseOf 8 (some (.object "SurveyStore$BaseRow")) [] 3 := ⟨q1, q544, ⟨by decide, by decide⟩, by decide +kernel, by decide⟩
theorem f_S_baseRowAt : zFit y_S_baseRowAt b_S_baseRowAt 2 (some (.object "SurveyStore$BaseRow")) [] 1 := ⟨q1, q548, ⟨by decide, by decide⟩, by decide +kernel, by decide⟩
theorem f_R_init : zFit y_R_init b_R_init 1 none [] 0 := ⟨q13, q552, ⟨by decide, by decide⟩, by decide +kernel, by decide⟩
theorem f_S_joinBase : zFit y_S_joinBase b_S_joinBase 6 none [] 4 := ⟨q1, q562, ⟨by decide, by decide⟩, by decide +kernel, by decide⟩
theorem f_R_take : zFit y_R_take b_R_take 3 none [] 1 := ⟨q13, q566, ⟨by decide, by decide⟩, by decide +kernel, by decide⟩
theorem f_R_mergeWith : zFit y_R_mergeWith b_R_mergeWith 5 none [] 2 := ⟨q13, q571, ⟨by decide, by decide⟩, by decide +kernel, by decide⟩
theorem f_S_isConflict : zFit y_S_isConflict b_S_isConflict 3 (some .boolean) [] 3 := ⟨q1, q574, ⟨by decide, by decide⟩, by decide +kernel, by decide⟩
theorem f_B_freshConflicts : zFit y_B_freshConflicts b_B_freshConflicts 1 (some (.object "SurveyStore$Conflicts")) [] 0 := ⟨q4, q579, ⟨by decide, by decide⟩, by decide +kernel, by decide⟩
theorem f_K_init : zFit y_K_init b_K_init 1 none [] 0 := ⟨q14, q584, ⟨by decide, by decide⟩, by decide +kernel, by decide⟩
theorem f_S_mergeCells : zFit y_S_mergeCells b_S_mergeCells 9 none [] 4 := ⟨q1, q616, ⟨by decide, by decide⟩, by decide +kernel, by decide⟩
theorem f_K_add : zFit y_K_add b_K_add 5 none [] 4 := ⟨q14, q621, ⟨by decide, by decide⟩, by decide +kernel, by decide⟩
theorem f_S_otherWins : zFit y_S_otherWins b_S_otherWins 5 (some .boolean) [] 3 := ⟨q1, q624, ⟨by decide, by decide⟩, by decide +kernel, by decide⟩
theorem f_L_settle : zFit y_L_settle b_L_settle 6 (some .int) [(0, 12, 15, 13)] 5 := ⟨q0, q627, ⟨by decide, by decide⟩, by decide +kernel, by decide⟩
theorem f_S_settle : zFit y_S_settle b_S_settle 5 (some .int) [] 3 := ⟨q1, q631, ⟨by decide, by decide⟩, by decide +kernel, by decide⟩
theorem f_K_markSettled : zFit y_K_markSettled b_K_markSettled 2 none [] 1 := ⟨q14, q636, ⟨by decide, by decide⟩, by decide +kernel, by decide⟩
theorem f_L_total : zFit y_L_total b_L_total 6 (some .int) [(0, 12, 15, 13)] 5 := ⟨q0, q639, ⟨by decide, by decide⟩, by decide +kernel, by decide⟩
theorem f_S_total : zFit y_S_total b_S_total 12 (some .int) [] 3 := ⟨q1, q643, ⟨by decide, by decide⟩, by decide +kernel, by decide⟩
theorem f_M_init : zFit y_M_init b_M_init 2 none [] 0 := ⟨q6, q648, ⟨by decide, by decide⟩, by decide +kernel, by decide⟩
theorem f_M_thrown : zFit y_M_thrown b_M_thrown 1 (some .int) [] 0 := ⟨q6, q741, ⟨by decide, by decide⟩, by decide +kernel, by decide⟩
theorem f_M_kind : zFit y_M_kind b_M_kind 3 (some .boolean) [] 2 := ⟨q6, q745, ⟨by decide, by decide⟩, by decide +kernel, by decide⟩
theorem f_M_isLayer : zFit y_M_isLayer b_M_isLayer 1 (some .boolean) [] 1 := ⟨q6, q748, ⟨by decide, by decide⟩, by decide +kernel, by decide⟩
theorem f_M_branch : zFit y_M_branch b_M_branch 3 none [] 2 := ⟨q6, q752, ⟨by decide, by decide⟩, by decide +kernel, by decide⟩
theorem f_M_isCommit : zFit y_M_isCommit b_M_isCommit 2 (some .boolean) [] 1 := ⟨q6, q756, ⟨by decide, by decide⟩, by decide +kernel, by decide⟩
theorem f_M_become : zFit y_M_become b_M_become 4 none [] 2 := ⟨q6, q760, ⟨by decide, by decide⟩, by decide +kernel, by decide⟩
theorem f_M_drop : zFit y_M_drop b_M_drop 3 (some .boolean) [] 1 := ⟨q6, q764, ⟨by decide, by decide⟩, by decide +kernel, by decide⟩
theorem f_M_isBranch : zFit y_M_isBranch b_M_isBranch 2 (some .boolean) [] 1 := ⟨q6, q768, ⟨by decide, by decide⟩, by decide +kernel, by decide⟩
theorem f_M_region : zFit y_M_region b_M_region 5 (some .boolean) [] 4 := ⟨q6, q772, ⟨by decide, by decide⟩, by decide +kernel, by decide⟩
theorem f_M_paint : zFit y_M_paint b_M_paint 6 none [] 3 := ⟨q6, q776, ⟨by decide, by decide⟩, by decide +kernel, by decide⟩
theorem f_M_isValue : zFit y_M_isValue b_M_isValue 1 (some .boolean) [] 1 := ⟨q6, q779, ⟨by decide, by decide⟩, by decide +kernel, by decide⟩
theorem f_M_fails : zFit y_M_fails b_M_fails 2 (some .boolean) [] 1 := ⟨q6, q785, ⟨by decide, by decide⟩, by decide +kernel, by decide⟩
theorem f_M_cellOf : zFit y_M_cellOf b_M_cellOf 3 (some .int) [] 3 := ⟨q6, q788, ⟨by decide, by decide⟩, by decide +kernel, by decide⟩
theorem f_M_give : zFit y_M_give b_M_give 4 none [] 3 := ⟨q6, q792, ⟨by decide, by decide⟩, by decide +kernel, by decide⟩
theorem f_M_corner : zFit y_M_corner b_M_corner 4 (some .boolean) [] 3 := ⟨q6, q797, ⟨by decide, by decide⟩, by decide +kernel, by decide⟩
theorem f_M_polygon : zFit y_M_polygon b_M_polygon 9 none [] 4 := ⟨q6, q801, ⟨by decide, by decide⟩, by decide +kernel, by decide⟩
theorem f_M_meets : zFit y_M_meets b_M_meets 11 (some .boolean) [] 4 := ⟨q6, q805, ⟨by decide, by decide⟩, by decide +kernel, by decide⟩
theorem f_M_copy : zFit y_M_copy b_M_copy 12 none [] 6 := ⟨q6, q809, ⟨by decide, by decide⟩, by decide +kernel, by decide⟩
theorem f_M_entry : zFit y_M_entry b_M_entry 4 (some .boolean) [] 3 := ⟨q6, q813, ⟨by decide, by decide⟩, by decide +kernel, by decide⟩
theorem f_M_map : zFit y_M_map b_M_map 9 none [] 2 := ⟨q6, q817, ⟨by decide, by decide⟩, by decide +kernel, by decide⟩
theorem f_M_combine : zFit y_M_combine b_M_combine 12 none [] 4 := ⟨q6, q821, ⟨by decide, by decide⟩, by decide +kernel, by decide⟩
theorem f_M_commit : zFit y_M_commit b_M_commit 4 (some .int) [] 1 := ⟨q6, q825, ⟨by decide, by decide⟩, by decide +kernel, by decide⟩
theorem f_M_isChanged : zFit y_M_isChanged b_M_isChanged 4 (some .boolean) [] 1 := ⟨q6, q829, ⟨by decide, by decide⟩, by decide +kernel, by decide⟩
theorem f_M_unsettled : zFit y_M_unsettled b_M_unsettled 4 (some .int) [] 1 := ⟨q6, q833, ⟨by decide, by decide⟩, by decide +kernel, by decide⟩
theorem f_M_merge : zFit y_M_merge b_M_merge 9 (some .int) [] 2 := ⟨q6, q837, ⟨by decide, by decide⟩, by decide +kernel, by decide⟩
theorem f_M_ancestors : zFit y_M_ancestors b_M_ancestors 4 (some .int) [] 1 := ⟨q6, q841, ⟨by decide, by decide⟩, by decide +kernel, by decide⟩
theorem f_M_base : zFit y_M_base b_M_base 6 none [] 2 := ⟨q6, q845, ⟨by decide, by decide⟩, by decide +kernel, by decide⟩
theorem f_M_beginBase : zFit y_M_beginBase b_M_beginBase 4 none [] 3 := ⟨q6, q849, ⟨by decide, by decide⟩, by decide +kernel, by decide⟩
theorem f_M_nearestOf : zFit y_M_nearestOf b_M_nearestOf 8 (some .int) [] 2 := ⟨q6, q853, ⟨by decide, by decide⟩, by decide +kernel, by decide⟩
theorem f_M_next : zFit y_M_next b_M_next 3 (some .int) [] 2 := ⟨q6, q856, ⟨by decide, by decide⟩, by decide +kernel, by decide⟩
theorem f_M_joinBase : zFit y_M_joinBase b_M_joinBase 7 none [] 2 := ⟨q6, q860, ⟨by decide, by decide⟩, by decide +kernel, by decide⟩
theorem f_M_madeIn : zFit y_M_madeIn b_M_madeIn 2 (some .int) [] 1 := ⟨q6, q864, ⟨by decide, by decide⟩, by decide +kernel, by decide⟩
theorem f_M_note : zFit y_M_note b_M_note 7 none [] 5 := ⟨q6, q868, ⟨by decide, by decide⟩, by decide +kernel, by decide⟩
theorem f_M_conflict : zFit y_M_conflict b_M_conflict 5 (some .int) [] 3 := ⟨q6, q872, ⟨by decide, by decide⟩, by decide +kernel, by decide⟩
theorem f_M_isConflict : zFit y_M_isConflict b_M_isConflict 3 (some .boolean) [] 2 := ⟨q6, q876, ⟨by decide, by decide⟩, by decide +kernel, by decide⟩
theorem f_M_settle : zFit y_M_settle b_M_settle 4 (some .int) [] 3 := ⟨q6, q880, ⟨by decide, by decide⟩, by decide +kernel, by decide⟩
theorem f_M_value : zFit y_M_value b_M_value 5 (some .int) [] 4 := ⟨q6, q884, ⟨by decide, by decide⟩, by decide +kernel, by decide⟩
theorem f_M_isCell : zFit y_M_isCell b_M_isCell 5 (some .boolean) [] 4 := ⟨q6, q888, ⟨by decide, by decide⟩, by decide +kernel, by decide⟩
theorem f_M_isPlace : zFit y_M_isPlace b_M_isPlace 2 (some .boolean) [] 1 := ⟨q6, q892, ⟨by decide, by decide⟩, by decide +kernel, by decide⟩
theorem f_M_origin : zFit y_M_origin b_M_origin 7 (some .int) [] 5 := ⟨q6, q896, ⟨by decide, by decide⟩, by decide +kernel, by decide⟩
theorem f_M_total : zFit y_M_total b_M_total 11 (some .int) [] 3 := ⟨q6, q900, ⟨by decide, by decide⟩, by decide +kernel, by decide⟩
theorem f_M_differing : zFit y_M_differing b_M_differing 6 (some .int) [] 3 := ⟨q6, q904, ⟨by decide, by decide⟩, by decide +kernel, by decide⟩
theorem f_M_differs : zFit y_M_differs b_M_differs 7 (some .int) [] 4 := ⟨q6, q908, ⟨by decide, by decide⟩, by decide +kernel, by decide⟩
theorem f_M_nearest : zFit y_M_nearest b_M_nearest 7 (some .int) [] 3 := ⟨q6, q912, ⟨by decide, by decide⟩, by decide +kernel, by decide⟩
theorem f_M_about : zFit y_M_about b_M_about 5 (some .int) [] 2 := ⟨q6, q916, ⟨by decide, by decide⟩, by decide +kernel, by decide⟩
theorem f_M_blocks : zFit y_M_blocks b_M_blocks 6 (some .int) [] 1 := ⟨q6, q920, ⟨by decide, by decide⟩, by decide +kernel, by decide⟩
theorem f_M_isNew : zFit y_M_isNew b_M_isNew 6 (some .boolean) [] 1 := ⟨q6, q924, ⟨by decide, by decide⟩, by decide +kernel, by decide⟩
theorem f_M_sameBlock : zFit y_M_sameBlock b_M_sameBlock 5 (some .boolean) [] 2 := ⟨q6, q928, ⟨by decide, by decide⟩, by decide +kernel, by decide⟩
theorem l_L_50 : zlk2 "SurveyStoreLaw" 50 y_S_init := zlk2.a q18
theorem l_S_45 : zlk2 "SurveyStore" 45 y_A_fillJ := zlk2.a q31
theorem l_S_51 : zlk2 "SurveyStore" 51 y_C_init := zlk2.a q35
theorem l_S_58 : zlk2 "SurveyStore" 58 y_B_init := zlk2.b q59
theorem l_S_59 : zlk2 "SurveyStore" 59 y_B_startAt := zlk2.a q84
theorem l_B_25 : zlk2 "SurveyStore$Branch" 25 y_B_restAt := zlk2.a q91
theorem l_B_40 : zlk2 "SurveyStore$Branch" 40 y_K_forget := zlk2.a q95
theorem l_S_70 : zlk2 "SurveyStore" 70 y_A_fillI := zlk2.a q100
theorem l_L_54 : zlk2 "SurveyStoreLaw" 54 y_S_kind := zlk2.a q146
theorem l_S_73 : zlk2 "SurveyStore" 73 y_S_isLayer := zlk2.a q150
theorem l_L_69 : zlk2 "SurveyStoreLaw" 69 y_S_drop := zlk2.a q153
theorem l_S_84 : zlk2 "SurveyStore" 84 y_S_branchAt := zlk2.a q157
theorem l_L_74 : zlk2 "SurveyStoreLaw" 74 y_S_region := zlk2.a q161
theorem l_S_99 : zlk2 "SurveyStore" 99 y_S_fits := zlk2.a q165
theorem l_L_83 : zlk2 "SurveyStoreLaw" 83 y_S_corner := zlk2.a q168
theorem l_S_125 : zlk2 "SurveyStore" 125 y_S_isPoint := zlk2.a q172
theorem l_L_96 : zlk2 "SurveyStoreLaw" 96 y_S_entry := zlk2.a q175
theorem l_S_139 : zlk2 "SurveyStore" 139 y_S_isValue := zlk2.a q179
theorem l_L_114 : zlk2 "SurveyStoreLaw" 114 y_S_conflict := zlk2.a q184
theorem l_S_213 : zlk2 "SurveyStore" 213 y_K_tell := zlk2.a q188
theorem l_K_35 : zlk2 "SurveyStore$Conflicts" 35 y_K_has := zlk2.a q192
theorem l_K_40 : zlk2 "SurveyStore$Conflicts" 40 y_S_layerOf := zlk2.b q197
theorem l_K_44 : zlk2 "SurveyStore$Conflicts" 44 y_S_xOf := zlk2.b q200
theorem l_K_47 : zlk2 "SurveyStore$Conflicts" 47 y_S_yOf := zlk2.b q203
theorem l_L_122 : zlk2 "SurveyStoreLaw" 122 y_S_value := zlk2.a q206
theorem l_S_229 : zlk2 "SurveyStore" 229 y_S_cellAt := zlk2.a q210
theorem l_S_248 : zlk2 "SurveyStore" 248 y_S_cellsOf := zlk2.a q214
theorem l_S_77 : zlk2 "SurveyStore" 77 y_S_commitAt := zlk2.a q218
theorem l_S_267 : zlk2 "SurveyStore" 267 y_S_branchOfPlace := zlk2.a q222
theorem l_S_290 : zlk2 "SurveyStore" 290 y_S_isCoordinate := zlk2.a q226
theorem l_S_117 : zlk2 "SurveyStore" 117 y_S_indexOf := zlk2.a q229
theorem l_S_142 : zlk2 "SurveyStore" 142 y_S_valueOf := zlk2.a q232
theorem l_L_127 : zlk2 "SurveyStoreLaw" 127 y_S_origin := zlk2.a q235
theorem l_S_233 : zlk2 "SurveyStore" 233 y_S_originCommitOf := zlk2.a q239
theorem l_S_236 : zlk2 "SurveyStore" 236 y_S_originIndexOf := zlk2.a q242
theorem l_S_239 : zlk2 "SurveyStore" 239 y_S_layerOf := zlk2.a q245
theorem l_S_242 : zlk2 "SurveyStore" 242 y_S_xOf := zlk2.a q246
theorem l_S_245 : zlk2 "SurveyStore" 245 y_S_yOf := zlk2.a q247
theorem l_L_135 : zlk2 "SurveyStoreLaw" 135 y_S_differing := zlk2.a q248
theorem l_L_139 : zlk2 "SurveyStoreLaw" 139 y_S_differs := zlk2.a q252
theorem l_L_143 : zlk2 "SurveyStoreLaw" 143 y_S_nearest := zlk2.a q256
theorem l_S_260 : zlk2 "SurveyStore" 260 y_S_nearestOf := zlk2.a q260
theorem l_S_186 : zlk2 "SurveyStore" 186 y_S_contains := zlk2.a q264
theorem l_S_172 : zlk2 "SurveyStore" 172 y_S_ancestorsOf := zlk2.a q267
theorem l_L_147 : zlk2 "SurveyStoreLaw" 147 y_S_about := zlk2.a q271
theorem l_S_263 : zlk2 "SurveyStore" 263 y_S_aboutCommit := zlk2.a q275
theorem l_S_341 : zlk2 "SurveyStore" 341 y_S_childrenOf := zlk2.a q279
theorem l_S_344 : zlk2 "SurveyStore" 344 y_C_hasParent := zlk2.a q283
theorem l_S_270 : zlk2 "SurveyStore" 270 y_S_aboutBranch := zlk2.a q287
theorem l_S_157 : zlk2 "SurveyStore" 157 y_S_isChanged := zlk2.a q291
theorem l_L_151 : zlk2 "SurveyStoreLaw" 151 y_S_blocks := zlk2.a q295
theorem l_S_280 : zlk2 "SurveyStore" 280 y_T_init := zlk2.b q301
theorem l_S_281 : zlk2 "SurveyStore" 281 y_T_forget := zlk2.a q316
theorem l_T_18 : zlk2 "SurveyStore$BlockTable" 18 y_A_fillI := zlk2.a q320
theorem l_S_284 : zlk2 "SurveyStore" 284 y_T_addAll := zlk2.a q321
theorem l_T_28 : zlk2 "SurveyStore$BlockTable" 28 y_S_indexOf := zlk2.b q325
theorem l_T_32 : zlk2 "SurveyStore$BlockTable" 32 y_T_read := zlk2.a q326
theorem l_T_39 : zlk2 "SurveyStore$BlockTable" 39 y_S_valueOf := zlk2.b q330
theorem l_T_36 : zlk2 "SurveyStore$BlockTable" 36 y_T_keepIfNew := zlk2.a q332
theorem l_T_44 : zlk2 "SurveyStore$BlockTable" 44 y_T_hash := zlk2.a q336
theorem l_T_48 : zlk2 "SurveyStore$BlockTable" 48 y_T_isSame := zlk2.a q341
theorem l_L_59 : zlk2 "SurveyStoreLaw" 59 y_L_branch := zlk2.a q345
theorem l_L_7 : zlk2 "SurveyStoreLaw" 7 y_S_branch := zlk2.a q350
theorem l_L_79 : zlk2 "SurveyStoreLaw" 79 y_L_paint := zlk2.a q431
theorem l_L_17 : zlk2 "SurveyStoreLaw" 17 y_S_paint := zlk2.a q434
theorem l_S_109 : zlk2 "SurveyStore" 109 y_S_branchToEdit := zlk2.a q438
theorem l_S_113 : zlk2 "SurveyStore" 113 y_S_refuseUnlessValue := zlk2.a q442
theorem l_S_121 : zlk2 "SurveyStore" 121 y_B_set := zlk2.a q445
theorem l_B_52 : zlk2 "SurveyStore$Branch" 52 y_S_originOf := zlk2.b q451
theorem l_B_56 : zlk2 "SurveyStore$Branch" 56 y_S_cellOf := zlk2.b q454
theorem l_L_88 : zlk2 "SurveyStoreLaw" 88 y_L_polygon := zlk2.a q457
theorem l_L_21 : zlk2 "SurveyStoreLaw" 21 y_S_polygon := zlk2.a q460
theorem l_S_128 : zlk2 "SurveyStore" 128 y_S_isInside := zlk2.a q464
theorem l_S_293 : zlk2 "SurveyStore" 293 y_S_isRightOf := zlk2.a q468
theorem l_L_92 : zlk2 "SurveyStoreLaw" 92 y_L_copy := zlk2.a q472
theorem l_L_25 : zlk2 "SurveyStoreLaw" 25 y_S_copy := zlk2.a q475
theorem l_L_100 : zlk2 "SurveyStoreLaw" 100 y_L_map := zlk2.a q480
theorem l_L_29 : zlk2 "SurveyStoreLaw" 29 y_S_map := zlk2.a q483
theorem l_S_146 : zlk2 "SurveyStore" 146 y_S_mapped := zlk2.a q487
theorem l_S_150 : zlk2 "SurveyStore" 150 y_S_setIfOther := zlk2.a q491
theorem l_L_103 : zlk2 "SurveyStoreLaw" 103 y_L_combine := zlk2.a q494
theorem l_L_32 : zlk2 "SurveyStoreLaw" 32 y_S_combine := zlk2.a q497
theorem l_S_154 : zlk2 "SurveyStore" 154 y_S_combined := zlk2.a q501
theorem l_L_106 : zlk2 "SurveyStoreLaw" 106 y_L_commit := zlk2.a q510
theorem l_L_35 : zlk2 "SurveyStoreLaw" 35 y_S_commit := zlk2.a q513
theorem l_S_161 : zlk2 "SurveyStore" 161 y_B_hasUnsettled := zlk2.a q517
theorem l_S_165 : zlk2 "SurveyStore" 165 y_S_claimPending := zlk2.a q521
theorem l_S_297 : zlk2 "SurveyStore" 297 y_S_originOf := zlk2.a q524
theorem l_S_300 : zlk2 "SurveyStore" 300 y_S_cellOf := zlk2.a q525
theorem l_S_183 : zlk2 "SurveyStore" 183 y_B_restAt := zlk2.a q533
theorem l_L_110 : zlk2 "SurveyStoreLaw" 110 y_L_merge := zlk2.a q534
theorem l_L_39 : zlk2 "SurveyStoreLaw" 39 y_S_merge := zlk2.a q537
theorem l_S_189 : zlk2 "SurveyStore" 189 y_S_baseOf := zlk2.a q541
theorem l_S_307 : zlk2 "SurveyStore" 307 y_S_baseRowAt := zlk2.a q545
theorem l_S_323 : zlk2 "SurveyStore" 323 y_R_init := zlk2.b q550
theorem l_S_311 : zlk2 "SurveyStore" 311 y_S_joinBase := zlk2.a q559
theorem l_S_315 : zlk2 "SurveyStore" 315 y_R_take := zlk2.a q563
theorem l_R_15 : zlk2 "SurveyStore$BaseRow" 15 y_S_valueOf := zlk2.b q567
theorem l_S_319 : zlk2 "SurveyStore" 319 y_R_mergeWith := zlk2.a q568
theorem l_R_19 : zlk2 "SurveyStore$BaseRow" 19 y_S_isConflict := zlk2.b q572
theorem l_S_193 : zlk2 "SurveyStore" 193 y_B_freshConflicts := zlk2.a q576
theorem l_B_45 : zlk2 "SurveyStore$Branch" 45 y_K_init := zlk2.b q582
theorem l_S_200 : zlk2 "SurveyStore" 200 y_S_mergeCells := zlk2.a q613
theorem l_S_324 : zlk2 "SurveyStore" 324 y_S_isConflict := zlk2.a q617
theorem l_S_327 : zlk2 "SurveyStore" 327 y_K_add := zlk2.a q618
theorem l_S_331 : zlk2 "SurveyStore" 331 y_S_otherWins := zlk2.a q622
theorem l_L_118 : zlk2 "SurveyStoreLaw" 118 y_L_settle := zlk2.a q625
theorem l_L_43 : zlk2 "SurveyStoreLaw" 43 y_S_settle := zlk2.a q628
theorem l_S_217 : zlk2 "SurveyStore" 217 y_K_has := zlk2.a q632
theorem l_S_223 : zlk2 "SurveyStore" 223 y_K_markSettled := zlk2.a q633
theorem l_L_132 : zlk2 "SurveyStoreLaw" 132 y_L_total := zlk2.a q637
theorem l_L_47 : zlk2 "SurveyStoreLaw" 47 y_S_total := zlk2.a q640
theorem l_L_53 : zlk2 "SurveyStoreLaw" 53 y_M_init := zlk2.a q646
theorem l_L_65 : zlk2 "SurveyStoreLaw" 65 y_M_thrown := zlk2.a q738
theorem l_L_58 : zlk2 "SurveyStoreLaw" 58 y_M_kind := zlk2.a q742
theorem l_M_102 : zlk2 "SurveyStoreModel" 102 y_M_isLayer := zlk2.a q746
theorem l_L_64 : zlk2 "SurveyStoreLaw" 64 y_M_branch := zlk2.a q749
theorem l_M_93 : zlk2 "SurveyStoreModel" 93 y_M_isCommit := zlk2.a q753
theorem l_M_105 : zlk2 "SurveyStoreModel" 105 y_M_become := zlk2.a q757
theorem l_L_73 : zlk2 "SurveyStoreLaw" 73 y_M_drop := zlk2.a q761
theorem l_M_97 : zlk2 "SurveyStoreModel" 97 y_M_isBranch := zlk2.a q765
theorem l_L_78 : zlk2 "SurveyStoreLaw" 78 y_M_region := zlk2.a q769
theorem l_L_82 : zlk2 "SurveyStoreLaw" 82 y_M_paint := zlk2.a q773
theorem l_M_116 : zlk2 "SurveyStoreModel" 116 y_M_isValue := zlk2.a q777
theorem l_M_119 : zlk2 "SurveyStoreModel" 119 y_M_fails := zlk2.a q782
theorem l_M_123 : zlk2 "SurveyStoreModel" 123 y_M_cellOf := zlk2.a q786
theorem l_M_127 : zlk2 "SurveyStoreModel" 127 y_M_give := zlk2.a q789
theorem l_L_87 : zlk2 "SurveyStoreLaw" 87 y_M_corner := zlk2.a q794
theorem l_L_91 : zlk2 "SurveyStoreLaw" 91 y_M_polygon := zlk2.a q798
theorem l_M_131 : zlk2 "SurveyStoreModel" 131 y_M_meets := zlk2.a q802
theorem l_L_95 : zlk2 "SurveyStoreLaw" 95 y_M_copy := zlk2.a q806
theorem l_L_99 : zlk2 "SurveyStoreLaw" 99 y_M_entry := zlk2.a q810
theorem l_L_102 : zlk2 "SurveyStoreLaw" 102 y_M_map := zlk2.a q814
theorem l_L_105 : zlk2 "SurveyStoreLaw" 105 y_M_combine := zlk2.a q818
theorem l_L_109 : zlk2 "SurveyStoreLaw" 109 y_M_commit := zlk2.a q822
theorem l_M_135 : zlk2 "SurveyStoreModel" 135 y_M_isChanged := zlk2.a q826
theorem l_M_138 : zlk2 "SurveyStoreModel" 138 y_M_unsettled := zlk2.a q830
theorem l_L_113 : zlk2 "SurveyStoreLaw" 113 y_M_merge := zlk2.a q834
theorem l_M_142 : zlk2 "SurveyStoreModel" 142 y_M_ancestors := zlk2.a q838
theorem l_M_158 : zlk2 "SurveyStoreModel" 158 y_M_base := zlk2.a q842
theorem l_M_149 : zlk2 "SurveyStoreModel" 149 y_M_beginBase := zlk2.a q846
theorem l_M_145 : zlk2 "SurveyStoreModel" 145 y_M_nearestOf := zlk2.a q850
theorem l_M_152 : zlk2 "SurveyStoreModel" 152 y_M_next := zlk2.a q854
theorem l_M_155 : zlk2 "SurveyStoreModel" 155 y_M_joinBase := zlk2.a q857
theorem l_M_161 : zlk2 "SurveyStoreModel" 161 y_M_madeIn := zlk2.a q861
theorem l_M_164 : zlk2 "SurveyStoreModel" 164 y_M_note := zlk2.a q865
theorem l_L_117 : zlk2 "SurveyStoreLaw" 117 y_M_conflict := zlk2.a q869
theorem l_M_168 : zlk2 "SurveyStoreModel" 168 y_M_isConflict := zlk2.a q873
theorem l_L_121 : zlk2 "SurveyStoreLaw" 121 y_M_settle := zlk2.a q877
theorem l_L_126 : zlk2 "SurveyStoreLaw" 126 y_M_value := zlk2.a q881
theorem l_M_175 : zlk2 "SurveyStoreModel" 175 y_M_isCell := zlk2.a q885
theorem l_M_172 : zlk2 "SurveyStoreModel" 172 y_M_isPlace := zlk2.a q889
theorem l_L_131 : zlk2 "SurveyStoreLaw" 131 y_M_origin := zlk2.a q893
theorem l_L_134 : zlk2 "SurveyStoreLaw" 134 y_M_total := zlk2.a q897
theorem l_L_138 : zlk2 "SurveyStoreLaw" 138 y_M_differing := zlk2.a q901
theorem l_L_142 : zlk2 "SurveyStoreLaw" 142 y_M_differs := zlk2.a q905
theorem l_L_146 : zlk2 "SurveyStoreLaw" 146 y_M_nearest := zlk2.a q909
theorem l_L_150 : zlk2 "SurveyStoreLaw" 150 y_M_about := zlk2.a q913
theorem l_L_154 : zlk2 "SurveyStoreLaw" 154 y_M_blocks := zlk2.a q917
theorem l_M_181 : zlk2 "SurveyStoreModel" 181 y_M_isNew := zlk2.a q921
theorem l_M_178 : zlk2 "SurveyStoreModel" 178 y_M_sameBlock := zlk2.a q925
theorem im_S_init : Cond.instanceMethod y_S_init ∈ zTW := q19
theorem st_A_fillJ : Cond.static y_A_fillJ ∈ zTW := q32
theorem im_C_init : Cond.instanceMethod y_C_init ∈ zTW := q36
theorem im_B_init : Cond.instanceMethod y_B_init ∈ zTW := q60
theorem im_B_startAt : Cond.instanceMethod y_B_startAt ∈ zTW := q85
theorem se_B_startAt : Cond.selects "SurveyStore$Branch" y_B_startAt y_B_startAt ∈ zTW := q86
theorem im_B_restAt : Cond.instanceMethod y_B_restAt ∈ zTW := q92
theorem se_B_restAt : Cond.selects "SurveyStore$Branch" y_B_restAt y_B_restAt ∈ zTW := q93
theorem im_K_forget : Cond.instanceMethod y_K_forget ∈ zTW := q96
theorem se_K_forget : Cond.selects "SurveyStore$Conflicts" y_K_forget y_K_forget ∈ zTW := q97
theorem st_A_fillI : Cond.static y_A_fillI ∈ zTW := q101
theorem im_S_kind : Cond.instanceMethod y_S_kind ∈ zTW := q147
theorem se_S_kind : Cond.selects "SurveyStore" y_S_kind y_S_kind ∈ zTW := q148
theorem st_S_isLayer : Cond.static y_S_isLayer ∈ zTW := q151
theorem im_S_drop : Cond.instanceMethod y_S_drop ∈ zTW := q154
theorem se_S_drop : Cond.selects "SurveyStore" y_S_drop y_S_drop ∈ zTW := q155
theorem im_S_branchAt : Cond.instanceMethod y_S_branchAt ∈ zTW := q159
theorem se_S_branchAt : Cond.selects "SurveyStore" y_S_branchAt y_S_branchAt ∈ zTW := sl0
theorem im_S_region : Cond.instanceMethod y_S_region ∈ zTW := q162
theorem se_S_region : Cond.selects "SurveyStore" y_S_region y_S_region ∈ zTW := q163
theorem st_S_fits : Cond.static y_S_fits ∈ zTW := q166
theorem im_S_corner : Cond.instanceMethod y_S_corner ∈ zTW := q169
theorem se_S_corner : Cond.selects "SurveyStore" y_S_corner y_S_corner ∈ zTW := q170
theorem st_S_isPoint : Cond.static y_S_isPoint ∈ zTW := q173
theorem im_S_entry : Cond.instanceMethod y_S_entry ∈ zTW := q176
theorem se_S_entry : Cond.selects "SurveyStore" y_S_entry y_S_entry ∈ zTW := q177
theorem st_S_isValue : Cond.static y_S_isValue ∈ zTW := q180
theorem im_S_conflict : Cond.instanceMethod y_S_conflict ∈ zTW := q185
theorem se_S_conflict : Cond.selects "SurveyStore" y_S_conflict y_S_conflict ∈ zTW := q186
theorem im_K_tell : Cond.instanceMethod y_K_tell ∈ zTW := q189
theorem se_K_tell : Cond.selects "SurveyStore$Conflicts" y_K_tell y_K_tell ∈ zTW := q190
theorem im_K_has : Cond.instanceMethod y_K_has ∈ zTW := q193
theorem se_K_has : Cond.selects "SurveyStore$Conflicts" y_K_has y_K_has ∈ zTW := q194
theorem st_S_layerOf : Cond.static y_S_layerOf ∈ zTW := q198
theorem st_S_xOf : Cond.static y_S_xOf ∈ zTW := q201
theorem st_S_yOf : Cond.static y_S_yOf ∈ zTW := q204
theorem im_S_value : Cond.instanceMethod y_S_value ∈ zTW := q207
theorem se_S_value : Cond.selects "SurveyStore" y_S_value y_S_value ∈ zTW := q208
theorem im_S_cellAt : Cond.instanceMethod y_S_cellAt ∈ zTW := q212
theorem se_S_cellAt : Cond.selects "SurveyStore" y_S_cellAt y_S_cellAt ∈ zTW := sl1
theorem im_S_cellsOf : Cond.instanceMethod y_S_cellsOf ∈ zTW := q216
theorem se_S_cellsOf : Cond.selects "SurveyStore" y_S_cellsOf y_S_cellsOf ∈ zTW := sl2
theorem im_S_commitAt : Cond.instanceMethod y_S_commitAt ∈ zTW := q220
theorem se_S_commitAt : Cond.selects "SurveyStore" y_S_commitAt y_S_commitAt ∈ zTW := sl3
theorem im_S_branchOfPlace : Cond.instanceMethod y_S_branchOfPlace ∈ zTW := q224
theorem se_S_branchOfPlace : Cond.selects "SurveyStore" y_S_branchOfPlace y_S_branchOfPlace ∈ zTW := sl4
theorem st_S_isCoordinate : Cond.static y_S_isCoordinate ∈ zTW := q227
theorem st_S_indexOf : Cond.static y_S_indexOf ∈ zTW := q230
theorem st_S_valueOf : Cond.static y_S_valueOf ∈ zTW := q233
theorem im_S_origin : Cond.instanceMethod y_S_origin ∈ zTW := q236
theorem se_S_origin : Cond.selects "SurveyStore" y_S_origin y_S_origin ∈ zTW := q237
theorem st_S_originCommitOf : Cond.static y_S_originCommitOf ∈ zTW := q240
theorem st_S_originIndexOf : Cond.static y_S_originIndexOf ∈ zTW := q243
theorem im_S_differing : Cond.instanceMethod y_S_differing ∈ zTW := q249
theorem se_S_differing : Cond.selects "SurveyStore" y_S_differing y_S_differing ∈ zTW := q250
theorem im_S_differs : Cond.instanceMethod y_S_differs ∈ zTW := q253
theorem se_S_differs : Cond.selects "SurveyStore" y_S_differs y_S_differs ∈ zTW := q254
theorem im_S_nearest : Cond.instanceMethod y_S_nearest ∈ zTW := q257
theorem se_S_nearest : Cond.selects "SurveyStore" y_S_nearest y_S_nearest ∈ zTW := q258
theorem im_S_nearestOf : Cond.instanceMethod y_S_nearestOf ∈ zTW := q262
theorem se_S_nearestOf : Cond.selects "SurveyStore" y_S_nearestOf y_S_nearestOf ∈ zTW := sl5
theorem st_S_contains : Cond.static y_S_contains ∈ zTW := q265
theorem im_S_ancestorsOf : Cond.instanceMethod y_S_ancestorsOf ∈ zTW := q269
theorem se_S_ancestorsOf : Cond.selects "SurveyStore" y_S_ancestorsOf y_S_ancestorsOf ∈ zTW := sl6
theorem im_S_about : Cond.instanceMethod y_S_about ∈ zTW := q272
theorem se_S_about : Cond.selects "SurveyStore" y_S_about y_S_about ∈ zTW := q273
theorem im_S_aboutCommit : Cond.instanceMethod y_S_aboutCommit ∈ zTW := q277
theorem se_S_aboutCommit : Cond.selects "SurveyStore" y_S_aboutCommit y_S_aboutCommit ∈ zTW := sl7
theorem im_S_childrenOf : Cond.instanceMethod y_S_childrenOf ∈ zTW := q281
theorem se_S_childrenOf : Cond.selects "SurveyStore" y_S_childrenOf y_S_childrenOf ∈ zTW := sl8
theorem im_C_hasParent : Cond.instanceMethod y_C_hasParent ∈ zTW := q284
theorem se_C_hasParent : Cond.selects "SurveyStore$Commit" y_C_hasParent y_C_hasParent ∈ zTW := q285
theorem im_S_aboutBranch : Cond.instanceMethod y_S_aboutBranch ∈ zTW := q289
theorem se_S_aboutBranch : Cond.selects "SurveyStore" y_S_aboutBranch y_S_aboutBranch ∈ zTW := sl9
theorem im_S_isChanged : Cond.instanceMethod y_S_isChanged ∈ zTW := q293
theorem se_S_isChanged : Cond.selects "SurveyStore" y_S_isChanged y_S_isChanged ∈ zTW := sl10
theorem im_S_blocks : Cond.instanceMethod y_S_blocks ∈ zTW := q296
theorem se_S_blocks : Cond.selects "SurveyStore" y_S_blocks y_S_blocks ∈ zTW := q297
theorem im_T_init : Cond.instanceMethod y_T_init ∈ zTW := q302
theorem im_T_forget : Cond.instanceMethod y_T_forget ∈ zTW := q317
theorem se_T_forget : Cond.selects "SurveyStore$BlockTable" y_T_forget y_T_forget ∈ zTW := q318
theorem im_T_addAll : Cond.instanceMethod y_T_addAll ∈ zTW := q322
theorem se_T_addAll : Cond.selects "SurveyStore$BlockTable" y_T_addAll y_T_addAll ∈ zTW := q323
theorem im_T_read : Cond.instanceMethod y_T_read ∈ zTW := q327
theorem se_T_read : Cond.selects "SurveyStore$BlockTable" y_T_read y_T_read ∈ zTW := q328
theorem im_T_keepIfNew : Cond.instanceMethod y_T_keepIfNew ∈ zTW := q333
theorem se_T_keepIfNew : Cond.selects "SurveyStore$BlockTable" y_T_keepIfNew y_T_keepIfNew ∈ zTW := q334
theorem im_T_hash : Cond.instanceMethod y_T_hash ∈ zTW := q337
theorem se_T_hash : Cond.selects "SurveyStore$BlockTable" y_T_hash y_T_hash ∈ zTW := q338
theorem im_T_isSame : Cond.instanceMethod y_T_isSame ∈ zTW := q342
theorem se_T_isSame : Cond.selects "SurveyStore$BlockTable" y_T_isSame y_T_isSame ∈ zTW := q343
theorem st_L_branch : Cond.static y_L_branch ∈ zTW := q346
theorem im_S_branch : Cond.instanceMethod y_S_branch ∈ zTW := q351
theorem se_S_branch : Cond.selects "SurveyStore" y_S_branch y_S_branch ∈ zTW := q352
theorem st_L_paint : Cond.static y_L_paint ∈ zTW := q432
theorem im_S_paint : Cond.instanceMethod y_S_paint ∈ zTW := q435
theorem se_S_paint : Cond.selects "SurveyStore" y_S_paint y_S_paint ∈ zTW := q436
theorem im_S_branchToEdit : Cond.instanceMethod y_S_branchToEdit ∈ zTW := q440
theorem se_S_branchToEdit : Cond.selects "SurveyStore" y_S_branchToEdit y_S_branchToEdit ∈ zTW := sl12
theorem st_S_refuseUnlessValue : Cond.static y_S_refuseUnlessValue ∈ zTW := q443
theorem im_B_set : Cond.instanceMethod y_B_set ∈ zTW := q446
theorem se_B_set : Cond.selects "SurveyStore$Branch" y_B_set y_B_set ∈ zTW := q447
theorem st_S_originOf : Cond.static y_S_originOf ∈ zTW := q452
theorem st_S_cellOf : Cond.static y_S_cellOf ∈ zTW := q455
theorem st_L_polygon : Cond.static y_L_polygon ∈ zTW := q458
theorem im_S_polygon : Cond.instanceMethod y_S_polygon ∈ zTW := q461
theorem se_S_polygon : Cond.selects "SurveyStore" y_S_polygon y_S_polygon ∈ zTW := q462
theorem im_S_isInside : Cond.instanceMethod y_S_isInside ∈ zTW := q466
theorem se_S_isInside : Cond.selects "SurveyStore" y_S_isInside y_S_isInside ∈ zTW := sl13
theorem im_S_isRightOf : Cond.instanceMethod y_S_isRightOf ∈ zTW := q470
theorem se_S_isRightOf : Cond.selects "SurveyStore" y_S_isRightOf y_S_isRightOf ∈ zTW := sl14
theorem st_L_copy : Cond.static y_L_copy ∈ zTW := q473
theorem im_S_copy : Cond.instanceMethod y_S_copy ∈ zTW := q476
theorem se_S_copy : Cond.selects "SurveyStore" y_S_copy y_S_copy ∈ zTW := q477
theorem st_L_map : Cond.static y_L_map ∈ zTW := q481
theorem im_S_map : Cond.instanceMethod y_S_map ∈ zTW := q484
theorem se_S_map : Cond.selects "SurveyStore" y_S_map y_S_map ∈ zTW := q485
theorem im_S_mapped : Cond.instanceMethod y_S_mapped ∈ zTW := q489
theorem se_S_mapped : Cond.selects "SurveyStore" y_S_mapped y_S_mapped ∈ zTW := sl15
theorem st_S_setIfOther : Cond.static y_S_setIfOther ∈ zTW := q492
theorem st_L_combine : Cond.static y_L_combine ∈ zTW := q495
theorem im_S_combine : Cond.instanceMethod y_S_combine ∈ zTW := q498
theorem se_S_combine : Cond.selects "SurveyStore" y_S_combine y_S_combine ∈ zTW := q499
theorem st_S_combined : Cond.static y_S_combined ∈ zTW := q502
theorem st_L_commit : Cond.static y_L_commit ∈ zTW := q511
theorem im_S_commit : Cond.instanceMethod y_S_commit ∈ zTW := q514
theorem se_S_commit : Cond.selects "SurveyStore" y_S_commit y_S_commit ∈ zTW := q515
theorem im_B_hasUnsettled : Cond.instanceMethod y_B_hasUnsettled ∈ zTW := q518
theorem se_B_hasUnsettled : Cond.selects "SurveyStore$Branch" y_B_hasUnsettled y_B_hasUnsettled ∈ zTW := q519
theorem st_S_claimPending : Cond.static y_S_claimPending ∈ zTW := q522
theorem st_L_merge : Cond.static y_L_merge ∈ zTW := q535
theorem im_S_merge : Cond.instanceMethod y_S_merge ∈ zTW := q538
theorem se_S_merge : Cond.selects "SurveyStore" y_S_merge y_S_merge ∈ zTW := q539
theorem im_S_baseOf : Cond.instanceMethod y_S_baseOf ∈ zTW := q543
theorem se_S_baseOf : Cond.selects "SurveyStore" y_S_baseOf y_S_baseOf ∈ zTW := sl16
theorem im_S_baseRowAt : Cond.instanceMethod y_S_baseRowAt ∈ zTW := q547
theorem se_S_baseRowAt : Cond.selects "SurveyStore" y_S_baseRowAt y_S_baseRowAt ∈ zTW := sl17
theorem im_R_init : Cond.instanceMethod y_R_init ∈ zTW := q551
theorem im_S_joinBase : Cond.instanceMethod y_S_joinBase ∈ zTW := q561
theorem se_S_joinBase : Cond.selects "SurveyStore" y_S_joinBase y_S_joinBase ∈ zTW := sl18
theorem im_R_take : Cond.instanceMethod y_R_take ∈ zTW := q564
theorem se_R_take : Cond.selects "SurveyStore$BaseRow" y_R_take y_R_take ∈ zTW := q565
theorem im_R_mergeWith : Cond.instanceMethod y_R_mergeWith ∈ zTW := q569
theorem se_R_mergeWith : Cond.selects "SurveyStore$BaseRow" y_R_mergeWith y_R_mergeWith ∈ zTW := q570
theorem st_S_isConflict : Cond.static y_S_isConflict ∈ zTW := q573
theorem im_B_freshConflicts : Cond.instanceMethod y_B_freshConflicts ∈ zTW := q577
theorem se_B_freshConflicts : Cond.selects "SurveyStore$Branch" y_B_freshConflicts y_B_freshConflicts ∈ zTW := q578
theorem im_K_init : Cond.instanceMethod y_K_init ∈ zTW := q583
theorem im_S_mergeCells : Cond.instanceMethod y_S_mergeCells ∈ zTW := q615
theorem se_S_mergeCells : Cond.selects "SurveyStore" y_S_mergeCells y_S_mergeCells ∈ zTW := sl19
theorem im_K_add : Cond.instanceMethod y_K_add ∈ zTW := q619
theorem se_K_add : Cond.selects "SurveyStore$Conflicts" y_K_add y_K_add ∈ zTW := q620
theorem st_S_otherWins : Cond.static y_S_otherWins ∈ zTW := q623
theorem st_L_settle : Cond.static y_L_settle ∈ zTW := q626
theorem im_S_settle : Cond.instanceMethod y_S_settle ∈ zTW := q629
theorem se_S_settle : Cond.selects "SurveyStore" y_S_settle y_S_settle ∈ zTW := q630
theorem im_K_markSettled : Cond.instanceMethod y_K_markSettled ∈ zTW := q634
theorem se_K_markSettled : Cond.selects "SurveyStore$Conflicts" y_K_markSettled y_K_markSettled ∈ zTW := q635
theorem st_L_total : Cond.static y_L_total ∈ zTW := q638
theorem im_S_total : Cond.instanceMethod y_S_total ∈ zTW := q641
theorem se_S_total : Cond.selects "SurveyStore" y_S_total y_S_total ∈ zTW := q642
theorem im_M_init : Cond.instanceMethod y_M_init ∈ zTW := q647
theorem im_M_thrown : Cond.instanceMethod y_M_thrown ∈ zTW := q739
theorem se_M_thrown : Cond.selects "SurveyStoreModel" y_M_thrown y_M_thrown ∈ zTW := q740
theorem im_M_kind : Cond.instanceMethod y_M_kind ∈ zTW := q743
theorem se_M_kind : Cond.selects "SurveyStoreModel" y_M_kind y_M_kind ∈ zTW := q744
theorem st_M_isLayer : Cond.static y_M_isLayer ∈ zTW := q747
theorem im_M_branch : Cond.instanceMethod y_M_branch ∈ zTW := q750
theorem se_M_branch : Cond.selects "SurveyStoreModel" y_M_branch y_M_branch ∈ zTW := q751
theorem im_M_isCommit : Cond.instanceMethod y_M_isCommit ∈ zTW := q755
theorem se_M_isCommit : Cond.selects "SurveyStoreModel" y_M_isCommit y_M_isCommit ∈ zTW := sl20
theorem im_M_become : Cond.instanceMethod y_M_become ∈ zTW := q759
theorem se_M_become : Cond.selects "SurveyStoreModel" y_M_become y_M_become ∈ zTW := sl21
theorem im_M_drop : Cond.instanceMethod y_M_drop ∈ zTW := q762
theorem se_M_drop : Cond.selects "SurveyStoreModel" y_M_drop y_M_drop ∈ zTW := q763
theorem im_M_isBranch : Cond.instanceMethod y_M_isBranch ∈ zTW := q767
theorem se_M_isBranch : Cond.selects "SurveyStoreModel" y_M_isBranch y_M_isBranch ∈ zTW := sl22
theorem im_M_region : Cond.instanceMethod y_M_region ∈ zTW := q770
theorem se_M_region : Cond.selects "SurveyStoreModel" y_M_region y_M_region ∈ zTW := q771
theorem im_M_paint : Cond.instanceMethod y_M_paint ∈ zTW := q774
theorem se_M_paint : Cond.selects "SurveyStoreModel" y_M_paint y_M_paint ∈ zTW := q775
theorem st_M_isValue : Cond.static y_M_isValue ∈ zTW := q778
theorem im_M_fails : Cond.instanceMethod y_M_fails ∈ zTW := q784
theorem se_M_fails : Cond.selects "SurveyStoreModel" y_M_fails y_M_fails ∈ zTW := sl23
theorem st_M_cellOf : Cond.static y_M_cellOf ∈ zTW := q787
theorem im_M_give : Cond.instanceMethod y_M_give ∈ zTW := q791
theorem se_M_give : Cond.selects "SurveyStoreModel" y_M_give y_M_give ∈ zTW := sl24
theorem im_M_corner : Cond.instanceMethod y_M_corner ∈ zTW := q795
theorem se_M_corner : Cond.selects "SurveyStoreModel" y_M_corner y_M_corner ∈ zTW := q796
theorem im_M_polygon : Cond.instanceMethod y_M_polygon ∈ zTW := q799
theorem se_M_polygon : Cond.selects "SurveyStoreModel" y_M_polygon y_M_polygon ∈ zTW := q800
theorem im_M_meets : Cond.instanceMethod y_M_meets ∈ zTW := q804
theorem se_M_meets : Cond.selects "SurveyStoreModel" y_M_meets y_M_meets ∈ zTW := sl25
theorem im_M_copy : Cond.instanceMethod y_M_copy ∈ zTW := q807
theorem se_M_copy : Cond.selects "SurveyStoreModel" y_M_copy y_M_copy ∈ zTW := q808
theorem im_M_entry : Cond.instanceMethod y_M_entry ∈ zTW := q811
theorem se_M_entry : Cond.selects "SurveyStoreModel" y_M_entry y_M_entry ∈ zTW := q812
theorem im_M_map : Cond.instanceMethod y_M_map ∈ zTW := q815
theorem se_M_map : Cond.selects "SurveyStoreModel" y_M_map y_M_map ∈ zTW := q816
theorem im_M_combine : Cond.instanceMethod y_M_combine ∈ zTW := q819
theorem se_M_combine : Cond.selects "SurveyStoreModel" y_M_combine y_M_combine ∈ zTW := q820
theorem im_M_commit : Cond.instanceMethod y_M_commit ∈ zTW := q823
theorem se_M_commit : Cond.selects "SurveyStoreModel" y_M_commit y_M_commit ∈ zTW := q824
theorem im_M_isChanged : Cond.instanceMethod y_M_isChanged ∈ zTW := q828
theorem se_M_isChanged : Cond.selects "SurveyStoreModel" y_M_isChanged y_M_isChanged ∈ zTW := sl26
theorem im_M_unsettled : Cond.instanceMethod y_M_unsettled ∈ zTW := q832
theorem se_M_unsettled : Cond.selects "SurveyStoreModel" y_M_unsettled y_M_unsettled ∈ zTW := sl27
theorem im_M_merge : Cond.instanceMethod y_M_merge ∈ zTW := q835
theorem se_M_merge : Cond.selects "SurveyStoreModel" y_M_merge y_M_merge ∈ zTW := q836
theorem im_M_ancestors : Cond.instanceMethod y_M_ancestors ∈ zTW := q840
theorem se_M_ancestors : Cond.selects "SurveyStoreModel" y_M_ancestors y_M_ancestors ∈ zTW := sl28
theorem im_M_base : Cond.instanceMethod y_M_base ∈ zTW := q844
theorem se_M_base : Cond.selects "SurveyStoreModel" y_M_base y_M_base ∈ zTW := sl29
theorem im_M_beginBase : Cond.instanceMethod y_M_beginBase ∈ zTW := q848
theorem se_M_beginBase : Cond.selects "SurveyStoreModel" y_M_beginBase y_M_beginBase ∈ zTW := sl30
theorem im_M_nearestOf : Cond.instanceMethod y_M_nearestOf ∈ zTW := q852
theorem se_M_nearestOf : Cond.selects "SurveyStoreModel" y_M_nearestOf y_M_nearestOf ∈ zTW := sl31
theorem st_M_next : Cond.static y_M_next ∈ zTW := q855
theorem im_M_joinBase : Cond.instanceMethod y_M_joinBase ∈ zTW := q859
theorem se_M_joinBase : Cond.selects "SurveyStoreModel" y_M_joinBase y_M_joinBase ∈ zTW := sl32
theorem im_M_madeIn : Cond.instanceMethod y_M_madeIn ∈ zTW := q863
theorem se_M_madeIn : Cond.selects "SurveyStoreModel" y_M_madeIn y_M_madeIn ∈ zTW := sl33
theorem im_M_note : Cond.instanceMethod y_M_note ∈ zTW := q867
theorem se_M_note : Cond.selects "SurveyStoreModel" y_M_note y_M_note ∈ zTW := sl34
theorem im_M_conflict : Cond.instanceMethod y_M_conflict ∈ zTW := q870
theorem se_M_conflict : Cond.selects "SurveyStoreModel" y_M_conflict y_M_conflict ∈ zTW := q871
theorem im_M_isConflict : Cond.instanceMethod y_M_isConflict ∈ zTW := q875
theorem se_M_isConflict : Cond.selects "SurveyStoreModel" y_M_isConflict y_M_isConflict ∈ zTW := sl35
theorem im_M_settle : Cond.instanceMethod y_M_settle ∈ zTW := q878
theorem se_M_settle : Cond.selects "SurveyStoreModel" y_M_settle y_M_settle ∈ zTW := q879
theorem im_M_value : Cond.instanceMethod y_M_value ∈ zTW := q882
theorem se_M_value : Cond.selects "SurveyStoreModel" y_M_value y_M_value ∈ zTW := q883
theorem im_M_isCell : Cond.instanceMethod y_M_isCell ∈ zTW := q887
theorem se_M_isCell : Cond.selects "SurveyStoreModel" y_M_isCell y_M_isCell ∈ zTW := sl36
theorem im_M_isPlace : Cond.instanceMethod y_M_isPlace ∈ zTW := q891
theorem se_M_isPlace : Cond.selects "SurveyStoreModel" y_M_isPlace y_M_isPlace ∈ zTW := sl37
theorem im_M_origin : Cond.instanceMethod y_M_origin ∈ zTW := q894
theorem se_M_origin : Cond.selects "SurveyStoreModel" y_M_origin y_M_origin ∈ zTW := q895
theorem im_M_total : Cond.instanceMethod y_M_total ∈ zTW := q898
theorem se_M_total : Cond.selects "SurveyStoreModel" y_M_total y_M_total ∈ zTW := q899
theorem im_M_differing : Cond.instanceMethod y_M_differing ∈ zTW := q902
theorem se_M_differing : Cond.selects "SurveyStoreModel" y_M_differing y_M_differing ∈ zTW := q903
theorem im_M_differs : Cond.instanceMethod y_M_differs ∈ zTW := q906
theorem se_M_differs : Cond.selects "SurveyStoreModel" y_M_differs y_M_differs ∈ zTW := q907
theorem im_M_nearest : Cond.instanceMethod y_M_nearest ∈ zTW := q910
theorem se_M_nearest : Cond.selects "SurveyStoreModel" y_M_nearest y_M_nearest ∈ zTW := q911
theorem im_M_about : Cond.instanceMethod y_M_about ∈ zTW := q914
theorem se_M_about : Cond.selects "SurveyStoreModel" y_M_about y_M_about ∈ zTW := q915
theorem im_M_blocks : Cond.instanceMethod y_M_blocks ∈ zTW := q918
theorem se_M_blocks : Cond.selects "SurveyStoreModel" y_M_blocks y_M_blocks ∈ zTW := q919
theorem im_M_isNew : Cond.instanceMethod y_M_isNew ∈ zTW := q923
theorem se_M_isNew : Cond.selects "SurveyStoreModel" y_M_isNew y_M_isNew ∈ zTW := sl38
theorem im_M_sameBlock : Cond.instanceMethod y_M_sameBlock ∈ zTW := q927
theorem se_M_sameBlock : Cond.selects "SurveyStoreModel" y_M_sameBlock y_M_sameBlock ∈ zTW := sl39
end
section
/-! the JDK's members that the class uses; switches -/
section ZI
variable {g : zGt} {X : zX} {cc : ByteArray} {y : MethodName} {ret : Option FieldType} {tb : List (Nat × Nat × Nat × Nat)} {nl d mc ms : Nat} {Post : zRes → zG → Prop} {pc : Nat} {zl : List (Option Value)} {st : List Value} {G : zG} {k n idx : Nat}
def zmax (x z : Int32) : Int32 := if x < z then z else x
def zmin (x z : Int32) : Int32 := if z < x then z else x
theorem zr_mmax (hX : zOK g X cc y ret tb nl d mc ms) {x z : Int32} (hw : Cond.methodLink y.cls idx Lib.Math.max.name ∈ zTW) (hw2 : Cond.static Lib.Math.max.name ∈ zTW) (hw3 : Cond.initialized "java/lang/Math" ∈ zTW) (hw4 : Cond.code Lib.Math.max.name Lib.Math.max.code 2 (some .int) ∈ zTW) (hwt : (st.map fun v => v.category).sum ≤ 12) (hd1 : 1 ≤ d) (hd : decode cc pc = .ok (.invokestatic idx, 3)) (kk : zw g X Post (pc + 3) zl (.int (zmax x z) :: st) G k n) : zw g X Post pc zl (.int z :: .int x :: st) G k n := by
  obtain ⟨p, e, R, s, m, args, below, meth, c, A, nL⟩ := X
  intro H locs L hR hS hL hk hn
  exact va_mmax hX.ex hX.cd (by rw [hX.ml, hL.size]) hX.ow (hX.wk hw rfl) (hX.wk hw2 rfl) (hX.wk hw3 rfl) (hX.wk hw4 rfl) (by rw [hX.rm]; exact hd1) (by rw [hX.rm]; show _ ≤ 64 * d; omega) hk hn hd (kk H locs L hR hS hL hk hn)
theorem zr_mmin (hX : zOK g X cc y ret tb nl d mc ms) {x z : Int32} (hw : Cond.methodLink y.cls idx Lib.Math.min.name ∈ zTW) (hw2 : Cond.static Lib.Math.min.name ∈ zTW) (hw3 : Cond.initialized "java/lang/Math" ∈ zTW) (hw4 : Cond.code Lib.Math.min.name Lib.Math.min.code 2 (some .int) ∈ zTW) (hwt : (st.map fun v => v.category).sum ≤ 12) (hd1 : 1 ≤ d) (hd : decode cc pc = .ok (.invokestatic idx, 3)) (kk : zw g X Post (pc + 3) zl (.int (zmin x z) :: st) G k n) : zw g X Post pc zl (.int z :: .int x :: st) G k n := by
  obtain ⟨p, e, R, s, m, args, below, meth, c, A, nL⟩ := X
  intro H locs L hR hS hL hk hn
  exact va_mmin hX.ex hX.cd (by rw [hX.ml, hL.size]) hX.ow (hX.wk hw rfl) (hX.wk hw2 rfl) (hX.wk hw3 rfl) (hX.wk hw4 rfl) (by rw [hX.rm]; exact hd1) (by rw [hX.rm]; show _ ≤ 64 * d; omega) hk hn hd (kk H locs L hR hS hL hk hn)
theorem zr_objInit (hX : zOK g X cc y ret tb nl d mc ms) {a : Nat} (hw : Cond.methodLink y.cls idx Lib.objectInit ∈ zTW) (hw2 : Cond.instanceMethod Lib.objectInit ∈ zTW) (hw3 : Cond.code Lib.objectInit ⟨#[0xb1]⟩ 1 none ∈ zTW) (hwt : (st.map fun v => v.category).sum ≤ 12) (hd1 : 1 ≤ d) (hd : decode cc pc = .ok (.invokespecial idx, 3)) (kk : zw g X Post (pc + 3) zl st G k n) : zw g X Post pc zl (.ref a :: st) G k n := by
  obtain ⟨p, e, R, s, m, args, below, meth, c, A, nL⟩ := X
  intro H locs L hR hS hL hk hn
  exact W.objInit hX.ex hX.cd hX.ow (hX.wk hw rfl) (hX.wk hw2 rfl) (hX.wk hw3 rfl) rfl (by rw [hX.ml]; exact hL.size) rfl hd (by rw [hX.rm]; exact hd1) (by rw [hX.rm]; show 2 * 0 + _ + 12 ≤ 64 * d; omega) (kk H locs L hR hS hL hk hn)
theorem zr_anew (hX : zOK g X cc y ret tb nl d mc ms) {N t : Nat} {i : Int32} {C : String} (hw1 : Cond.classLink y.cls idx C ∈ zTW) (hw2 : Cond.arrayOver (.object C) ∈ zTW) (ht : (zty (ztc g))[t]? = some (ztc g t, .object C)) (ht6 : t < 6) (hi : ¬ i < 0) (hN : i.toNatClampNeg = N) (hb : N * 4 ≤ 536870912) (hk1 : k + 1 ≤ mc) (hn1 : n + N ≤ ms) (hd : decode cc pc = .ok (.anewarray idx, 3))
    (kk : ∀ q : Nat, G q = none → zw g X Post (pc + 3) zl (.ref q :: st) (zput G q (zR t N (fun _ => none))) (k + 1) (n + N)) : zw g X Post pc zl (.int i :: st) G k n := by
  obtain ⟨p, e, R, s, m, args, below, meth, c, A, nL⟩ := X
  intro H locs L hR hS hL hk hn
  obtain ⟨ws, h1, h2, h3, h4⟩ := hR
  have hrm := hX.rm
  have c1 : k + 1 ≤ R.cells := by rw [hrm]; exact hk1
  have c2 : n + N ≤ R.slots := by rw [hrm]; exact hn1
  refine va_newq (D := zD g) (cl := zcl) (tys := zty (ztc g)) (C := C) hX.ex hX.cd hX.ow (hX.wk hw1 rfl) (va_AO.moved hX.af.1.alike (hX.gl.1 _ hw2)) hX.K h1 h2 hS hX.hA hi hN hb c1 c2 hd (fun q cA H1 pK p1 p2 p3 => ?_)
  have e1 : cA = ztc g t := by
    obtain ⟨-, kA, comp, r1, r2, r3, r4⟩ := pK.2 6 (cA, .object C) rfl
    obtain ⟨-, kB, comp2, b1, b2, b3, b4⟩ := hX.K.2 t (ztc g t, .object C) ht
    exact Option.some.inj (r4.symm.trans b4)
  subst e1
  obtain ⟨g1, g2⟩ := zRep_push (c' := zR t N (fun _ => none)) h3 h4 p1 p2
  exact kk q g1 H1 locs L g2 p3 hL c1 c2
/-- long[].clone(), and the cast behind it -/
theorem zr_cloneJ (hX : zOK g X cc y ret tb nl d mc ms) {a N ic : Nat} {f : Nat → Int64} (hG : G a = some (zJ N f)) (hw : Cond.methodLink y.cls idx ⟨"[J", "clone", "()Ljava/lang/Object;"⟩ ∈ zTW) (hw2 : Cond.sameMethod "[J" "java/lang/Object" "clone" "()Ljava/lang/Object;" ∈ zTW) (hw3 : Cond.native ⟨"java/lang/Object", "clone", "()Ljava/lang/Object;"⟩ ∈ zTW) (hw4 : Cond.instanceMethod ⟨"java/lang/Object", "clone", "()Ljava/lang/Object;"⟩ ∈ zTW)
    (hw5 : Cond.selects "[J" ⟨"[J", "clone", "()Ljava/lang/Object;"⟩ ⟨"java/lang/Object", "clone", "()Ljava/lang/Object;"⟩ ∈ zTW) (hw6 : Cond.castable "[J" "java/lang/Cloneable" ∈ zTW) (hw7 : Cond.classLink y.cls ic "[J" ∈ zTW) (hwt : (st.map fun v => v.category).sum ≤ 12) (hd1 : 1 ≤ d) (hk1 : k + 1 ≤ mc) (hn1 : n + N ≤ ms) (hd : decode cc pc = .ok (.invokevirtual idx, 3)) (hd3 : decode cc (pc + 3) = .ok (.checkcast ic, 3))
    (kk : ∀ q : Nat, G q = none → zw g X Post (pc + 6) zl (.ref q :: st) (zput G q (zJ N f)) (k + 1) (n + N)) : zw g X Post pc zl (.ref a :: st) G k n := by
  obtain ⟨p, e, R, s, m, args, below, meth, c, A, nL⟩ := X
  intro H locs L hR hS hL hk hn
  obtain ⟨ws, h1, h2, h3, h4⟩ := hR
  obtain ⟨q0, hq⟩ := h3 a _ hG
  have hrm := hX.rm
  have c1 : k + 1 ≤ R.cells := by rw [hrm]; exact hk1
  have c2 : n + N ≤ R.slots := by rw [hrm]; exact hn1
  have hnm : s.vm.findClass "[J" = some (ztc g 2) := (hX.K.2 2 (ztc g 2, .long) rfl).2
  refine va_clone (D := zD g) (cl := zcl) (tys := zty (ztc g)) (ad := "[J") (x := (N, .inr (.inl f))) (ty := .long) hX.ex hX.cd (by rw [hX.ml, hL.size]) hX.ow (hX.wk hw rfl) (hX.wk hw2 rfl) (hX.wk hw3 rfl) (hX.wk hw4 rfl) (hX.wk hw5 rfl) (va_Nw.warmC hX.af.1 (va_Nw.of rfl (hX.gl.1 _ hw6))) hX.K h1 h2 hS hX.hA q0 2 hq rfl hnm
    (va_fit (fun i _ => rfl)) (by rw [hrm]; exact hd1) (by rw [hrm]; show _ ≤ 64 * d; omega) c1 c2 hd (fun q H1 pK p1 p2 p3 => ?_)
  have hlast : (ws ++ [(q, .inl (ztc g 2, N, .inr (.inl f)))])[ws.length]? = some (q, .inl (ztc g 2, N, .inr (.inl f))) := by
    rw [List.getElem?_append_right (Nat.le_refl _), Nat.sub_self]
    rfl
  obtain ⟨g1, g2⟩ := zRep_push (c' := zJ N f) h3 h4 p1 p2
  exact va_castA hX.ex hX.cd hX.ow (hX.wk hw7 rfl) p1 ws.length hlast hnm hd3 (kk q g1 H1 locs L g2 p3 hL c1 c2)
/-- System.arraycopy between two different long[] -/
theorem zr_copyJ (hX : zOK g X cc y ret tb nl d mc ms) {a b N M : Nat} {f f2 : Nat → Int64} {sp dp len : Int32} (hG : G a = some (zJ N f)) (hG2 : G b = some (zJ M f2)) (h1 : ¬ sp < 0) (h2 : ¬ dp < 0) (h3 : ¬ len < 0) (h4 : sp.toNatClampNeg + len.toNatClampNeg ≤ N) (h5 : dp.toNatClampNeg + len.toNatClampNeg ≤ M)
    (hw : Cond.methodLink y.cls idx arraycopyName ∈ zTW) (hw2 : Cond.native arraycopyName ∈ zTW) (hw3 : Cond.static arraycopyName ∈ zTW) (hw4 : Cond.initialized "java/lang/System" ∈ zTW) (hwt : (st.map fun v => v.category).sum ≤ 12) (hd1 : 2 ≤ d) (hd : decode cc pc = .ok (.invokestatic idx, 3))
    (kk : zw g X Post (pc + 3) zl st (zput G b (zJ M (va_cpy f f2 sp.toNatClampNeg dp.toNatClampNeg len.toNatClampNeg))) k n) : zw g X Post pc zl (.int len :: .int dp :: .ref b :: .int sp :: .ref a :: st) G k n := by
  obtain ⟨p, e, R, s, m, args, below, meth, c, A, nL⟩ := X
  intro H locs L hR hS hL hk hn
  obtain ⟨ws, w1, w2, w3, w4⟩ := hR
  obtain ⟨q0, hq0⟩ := w3 a _ hG
  obtain ⟨q1, hq1⟩ := w3 b _ hG2
  have hrm := hX.rm
  have f1 : 1 ≤ R.frames := by rw [hrm]; show 1 ≤ d; omega
  have f3 : nativeFrameWords "java/lang/System" "arraycopy" 5 ≤ 80 := by decide +kernel
  have f4 : (st.map fun v => v.category).sum + (nativeFrameWords "java/lang/System" "arraycopy" 5 + 11) ≤ R.locals := by rw [hrm]; show _ ≤ 64 * d; omega
  exact va_copyl (D := zD g) (cl := zcl) (tys := zty (ztc g)) (ty := .long) hX.ex hX.cd (by rw [hX.ml, hL.size]) hX.ow (hX.wk hw rfl) (hX.wk hw2 rfl) (hX.wk hw3 rfl) (hX.wk hw4 rfl) hX.K w1 w2 hS q0 q1 2 2 hq0 hq1 rfl rfl rfl h1 h2 h3 h4 h5 (fun i _ => rfl) f1 f4 hd (fun H1 locs1 p1 p2 p3 => kk H1 locs1 L (zRep_set (c' := zJ M (va_cpy f f2 sp.toNatClampNeg dp.toNatClampNeg len.toNatClampNeg)) w2 w3 w4 hq1 p1 p2) p3 hL hk hn)
/-- a switch over 0 .. N: by the number -/
theorem zr_tabN (hX : zOK g X cc y ret tb nl d mc ms) {dflt hi : Int} {offs : Array Int} {len : Nat} {x : Int32} (hd : decode cc pc = .ok (.tableswitch dflt 0 hi offs, len)) (j : Nat) {off : Int} {tgt : Nat} (hx : x = nI j) (hj : j < 2 ^ 31) (hjh : (j : Int) ≤ hi) (ho : offs[j]? = some off) (ht : (pc : Int) + off = (tgt : Int)) (kk : zw g X Post tgt zl st G k n) : zw g X Post pc zl (.int x :: st) G k n := by
  have e1 : x.toInt = (j : Int) := by rw [hx, nI_toInt hj]
  refine zr_tabIn hX (tgt := tgt) (off := off) hd (by rw [e1]; omega) (by rw [e1]; omega) ?_ ht kk
  rw [e1, show ((j : Int) - 0).toNat = j by omega]
  exact ho
theorem zr_tabD (hX : zOK g X cc y ret tb nl d mc ms) {dflt hi : Int} {offs : Array Int} {len : Nat} {x : Int32} (hd : decode cc pc = .ok (.tableswitch dflt 0 hi offs, len)) {tgt : Nat} {z : Int32} (hz : z.toInt = hi) (h : x < 0 ∨ z < x) (ht : (pc : Int) + dflt = (tgt : Int)) (kk : zw g X Post tgt zl st G k n) : zw g X Post pc zl (.int x :: st) G k n := by
  refine zr_tabOut hX (tgt := tgt) hd ?_ ht kk
  rcases h with h | h
  · exact Or.inl (by simpa using Int32.lt_iff_toInt_lt.mp h)
  · exact Or.inr (by rw [← hz]; exact Int32.lt_iff_toInt_lt.mp h)
end ZI
end
section
def s_S_isLayer (p0 : Int32) : Int32 := if p0 < 0 then 0 else if 4 ≤ p0 then 0 else 1
theorem c_S_isLayer (g : zGt) (d : Nat) (G : zG) (p0 : Int32) : zMet g y_S_isLayer b_S_isLayer 1 (some .boolean) [] d 0 0 [.int p0] G (zD1 (.int (s_S_isLayer p0)) G) := by
  refine zMet.of (by decide) (Nat.le_of_ble_eq_true rfl) rfl (fun X hX => ?_)
  refine zr_iload_n hX rfl d_S_isLayer_0 ?_
  refine zr_if_lt hX (tgt := 13) d_S_isLayer_1 (by decide) (fun h1 => ?_) (fun h1 => ?_)
  · skip
    refine zr_iconst (v := 0) hX rfl d_S_isLayer_13 ?_
    exact zr_zret hX rfl d_S_isLayer_14 (zD1.i (by unfold s_S_isLayer; rw [if_pos h1]))
  · skip
    refine zr_iload_n hX rfl d_S_isLayer_4 ?_
    refine zr_iconst (v := 4) hX rfl d_S_isLayer_5 ?_
    refine zr_icmp_ge hX (tgt := 13) d_S_isLayer_6 (by decide) (fun h6 => ?_) (fun h6 => ?_)
    · skip
      refine zr_iconst (v := 0) hX rfl d_S_isLayer_13 ?_
      exact zr_zret hX rfl d_S_isLayer_14 (zD1.i (by unfold s_S_isLayer; rw [if_neg h1, if_pos h6]))
    · skip
      refine zr_iconst (v := 1) hX rfl d_S_isLayer_9 ?_
      refine zr_goto hX (tgt := 14) (by decide) d_S_isLayer_10 ?_
      exact zr_zret hX rfl d_S_isLayer_14 (zD1.i (by unfold s_S_isLayer; rw [if_neg h1, if_neg h6]))
def s_S_isCoordinate (p0 : Int32) : Int32 := if p0 < 0 then 0 else if 32 ≤ p0 then 0 else 1
theorem c_S_isCoordinate (g : zGt) (d : Nat) (G : zG) (p0 : Int32) : zMet g y_S_isCoordinate b_S_isCoordinate 1 (some .boolean) [] d 0 0 [.int p0] G (zD1 (.int (s_S_isCoordinate p0)) G) := by
  refine zMet.of (by decide) (Nat.le_of_ble_eq_true rfl) rfl (fun X hX => ?_)
  refine zr_iload_n hX rfl d_S_isCoordinate_0 ?_
  refine zr_if_lt hX (tgt := 14) d_S_isCoordinate_1 (by decide) (fun h1 => ?_) (fun h1 => ?_)
  · skip
    refine zr_iconst (v := 0) hX rfl d_S_isCoordinate_14 ?_
    exact zr_zret hX rfl d_S_isCoordinate_15 (zD1.i (by unfold s_S_isCoordinate; rw [if_pos h1]))
  · skip
    refine zr_iload_n hX rfl d_S_isCoordinate_4 ?_
    refine zr_bipush (v := 32) hX rfl d_S_isCoordinate_5 ?_
    refine zr_icmp_ge hX (tgt := 14) d_S_isCoordinate_7 (by decide) (fun h7 => ?_) (fun h7 => ?_)
    · skip
      refine zr_iconst (v := 0) hX rfl d_S_isCoordinate_14 ?_
      exact zr_zret hX rfl d_S_isCoordinate_15 (zD1.i (by unfold s_S_isCoordinate; rw [if_neg h1, if_pos h7]))
    · skip
      refine zr_iconst (v := 1) hX rfl d_S_isCoordinate_10 ?_
      refine zr_goto hX (tgt := 15) (by decide) d_S_isCoordinate_11 ?_
      exact zr_zret hX rfl d_S_isCoordinate_15 (zD1.i (by unfold s_S_isCoordinate; rw [if_neg h1, if_neg h7]))
def s_S_isPoint (p0 : Int32) : Int32 := if p0 < 0 then 0 else if 32 < p0 then 0 else 1
theorem c_S_isPoint (g : zGt) (d : Nat) (G : zG) (p0 : Int32) : zMet g y_S_isPoint b_S_isPoint 1 (some .boolean) [] d 0 0 [.int p0] G (zD1 (.int (s_S_isPoint p0)) G) := by
  refine zMet.of (by decide) (Nat.le_of_ble_eq_true rfl) rfl (fun X hX => ?_)
  refine zr_iload_n hX rfl d_S_isPoint_0 ?_
  refine zr_if_lt hX (tgt := 14) d_S_isPoint_1 (by decide) (fun h1 => ?_) (fun h1 => ?_)
  · skip
    refine zr_iconst (v := 0) hX rfl d_S_isPoint_14 ?_
    exact zr_zret hX rfl d_S_isPoint_15 (zD1.i (by unfold s_S_isPoint; rw [if_pos h1]))
  · skip
    refine zr_iload_n hX rfl d_S_isPoint_4 ?_
    refine zr_bipush (v := 32) hX rfl d_S_isPoint_5 ?_
    refine zr_icmp_gt hX (tgt := 14) d_S_isPoint_7 (by decide) (fun h7 => ?_) (fun h7 => ?_)
    · skip
      refine zr_iconst (v := 0) hX rfl d_S_isPoint_14 ?_
      exact zr_zret hX rfl d_S_isPoint_15 (zD1.i (by unfold s_S_isPoint; rw [if_neg h1, if_pos h7]))
    · skip
      refine zr_iconst (v := 1) hX rfl d_S_isPoint_10 ?_
      refine zr_goto hX (tgt := 15) (by decide) d_S_isPoint_11 ?_
      exact zr_zret hX rfl d_S_isPoint_15 (zD1.i (by unfold s_S_isPoint; rw [if_neg h1, if_neg h7]))
def s_S_isValue (p0 : Int32) : Int32 := if p0 = (-2147483648) then 1 else if p0 < (-1000000) then 0 else if 1000000 < p0 then 0 else 1
theorem c_S_isValue (g : zGt) (d : Nat) (G : zG) (p0 : Int32) : zMet g y_S_isValue b_S_isValue 1 (some .boolean) [] d 0 0 [.int p0] G (zD1 (.int (s_S_isValue p0)) G) := by
  refine zMet.of (by decide) (Nat.le_of_ble_eq_true rfl) rfl (fun X hX => ?_)
  refine zr_iload_n hX rfl d_S_isValue_0 ?_
  refine zr_ldc hX q99 d_S_isValue_1 ?_
  refine zr_icmp_eq hX (tgt := 20) d_S_isValue_3 (by decide) (fun h3 => ?_) (fun h3 => ?_)
  · skip
    refine zr_iconst (v := 1) hX rfl d_S_isValue_20 ?_
    refine zr_goto hX (tgt := 25) (by decide) d_S_isValue_21 ?_
    exact zr_zret hX rfl d_S_isValue_25 (zD1.i (by unfold s_S_isValue; rw [if_pos h3]))
  · skip
    refine zr_iload_n hX rfl d_S_isValue_6 ?_
    refine zr_ldcw hX q182 d_S_isValue_7 ?_
    refine zr_icmp_lt hX (tgt := 24) d_S_isValue_10 (by decide) (fun h10 => ?_) (fun h10 => ?_)
    · skip
      refine zr_iconst (v := 0) hX rfl d_S_isValue_24 ?_
      exact zr_zret hX rfl d_S_isValue_25 (zD1.i (by unfold s_S_isValue; rw [if_neg h3, if_pos h10]))
    · skip
      refine zr_iload_n hX rfl d_S_isValue_13 ?_
      refine zr_ldcw hX q183 d_S_isValue_14 ?_
      refine zr_icmp_gt hX (tgt := 24) d_S_isValue_17 (by decide) (fun h17 => ?_) (fun h17 => ?_)
      · skip
        refine zr_iconst (v := 0) hX rfl d_S_isValue_24 ?_
        exact zr_zret hX rfl d_S_isValue_25 (zD1.i (by unfold s_S_isValue; rw [if_neg h3, if_neg h10, if_pos h17]))
      · skip
        refine zr_iconst (v := 1) hX rfl d_S_isValue_20 ?_
        refine zr_goto hX (tgt := 25) (by decide) d_S_isValue_21 ?_
        exact zr_zret hX rfl d_S_isValue_25 (zD1.i (by unfold s_S_isValue; rw [if_neg h3, if_neg h10, if_neg h17]))
def s_S_fits (p0 : Int32) (p1 : Int32) : Int32 := if p0 < 0 then 0 else if 32 < p1 then 0 else if (32 - p1) < p0 then 0 else 1
theorem c_S_fits (g : zGt) (d : Nat) (G : zG) (p0 : Int32) (p1 : Int32) : zMet g y_S_fits b_S_fits 2 (some .boolean) [] d 0 0 [.int p0, .int p1] G (zD1 (.int (s_S_fits p0 p1)) G) := by
  refine zMet.of (by decide) (Nat.le_of_ble_eq_true rfl) rfl (fun X hX => ?_)
  refine zr_iload_n hX rfl d_S_fits_0 ?_
  refine zr_if_lt hX (tgt := 22) d_S_fits_1 (by decide) (fun h1 => ?_) (fun h1 => ?_)
  · skip
    refine zr_iconst (v := 0) hX rfl d_S_fits_22 ?_
    exact zr_zret hX rfl d_S_fits_23 (zD1.i (by unfold s_S_fits; rw [if_pos h1]))
  · skip
    refine zr_iload_n hX rfl d_S_fits_4 ?_
    refine zr_bipush (v := 32) hX rfl d_S_fits_5 ?_
    refine zr_icmp_gt hX (tgt := 22) d_S_fits_7 (by decide) (fun h7 => ?_) (fun h7 => ?_)
    · skip
      refine zr_iconst (v := 0) hX rfl d_S_fits_22 ?_
      exact zr_zret hX rfl d_S_fits_23 (zD1.i (by unfold s_S_fits; rw [if_neg h1, if_pos h7]))
    · skip
      refine zr_iload_n hX rfl d_S_fits_10 ?_
      refine zr_bipush (v := 32) hX rfl d_S_fits_11 ?_
      refine zr_iload_n hX rfl d_S_fits_13 ?_
      refine zr_isub hX d_S_fits_14 ?_
      refine zr_icmp_gt hX (tgt := 22) d_S_fits_15 (by decide) (fun h15 => ?_) (fun h15 => ?_)
      · skip
        refine zr_iconst (v := 0) hX rfl d_S_fits_22 ?_
        exact zr_zret hX rfl d_S_fits_23 (zD1.i (by unfold s_S_fits; rw [if_neg h1, if_neg h7, if_pos h15]))
      · skip
        refine zr_iconst (v := 1) hX rfl d_S_fits_18 ?_
        refine zr_goto hX (tgt := 23) (by decide) d_S_fits_19 ?_
        exact zr_zret hX rfl d_S_fits_23 (zD1.i (by unfold s_S_fits; rw [if_neg h1, if_neg h7, if_neg h15]))
def s_S_contains (p0 : Int32) (p1 : Int32) : Int32 := if ((p0 >>> (p1 &&& 31)) &&& 1) = 1 then 1 else 0
theorem c_S_contains (g : zGt) (d : Nat) (G : zG) (p0 : Int32) (p1 : Int32) : zMet g y_S_contains b_S_contains 2 (some .boolean) [] d 0 0 [.int p0, .int p1] G (zD1 (.int (s_S_contains p0 p1)) G) := by
  refine zMet.of (by decide) (Nat.le_of_ble_eq_true rfl) rfl (fun X hX => ?_)
  refine zr_iload_n hX rfl d_S_contains_0 ?_
  refine zr_iload_n hX rfl d_S_contains_1 ?_
  refine zr_ishr hX d_S_contains_2 ?_
  refine zr_iconst (v := 1) hX rfl d_S_contains_3 ?_
  refine zr_iand hX d_S_contains_4 ?_
  refine zr_iconst (v := 1) hX rfl d_S_contains_5 ?_
  refine zr_icmp_ne hX (tgt := 13) d_S_contains_6 (by decide) (fun h6 => ?_) (fun h6 => ?_)
  · skip
    refine zr_iconst (v := 0) hX rfl d_S_contains_13 ?_
    exact zr_zret hX rfl d_S_contains_14 (zD1.i (by unfold s_S_contains; rw [if_neg h6]))
  · skip
    refine zr_iconst (v := 1) hX rfl d_S_contains_9 ?_
    refine zr_goto hX (tgt := 14) (by decide) d_S_contains_10 ?_
    exact zr_zret hX rfl d_S_contains_14 (zD1.i (by unfold s_S_contains; rw [if_pos h6]))
def s_S_indexOf (p0 : Int32) (p1 : Int32) (p2 : Int32) : Int32 := ((p0 * 1024) + (p2 * 32)) + p1
theorem c_S_indexOf (g : zGt) (d : Nat) (G : zG) (p0 : Int32) (p1 : Int32) (p2 : Int32) : zMet g y_S_indexOf b_S_indexOf 3 (some .int) [] d 0 0 [.int p0, .int p1, .int p2] G (zD1 (.int (s_S_indexOf p0 p1 p2)) G) := by
  refine zMet.of (by decide) (Nat.le_of_ble_eq_true rfl) rfl (fun X hX => ?_)
  refine zr_iload_n hX rfl d_S_indexOf_0 ?_
  refine zr_sipush (v := 1024) hX rfl d_S_indexOf_1 ?_
  refine zr_imul hX d_S_indexOf_4 ?_
  refine zr_iload_n hX rfl d_S_indexOf_5 ?_
  refine zr_bipush (v := 32) hX rfl d_S_indexOf_6 ?_
  refine zr_imul hX d_S_indexOf_8 ?_
  refine zr_iadd hX d_S_indexOf_9 ?_
  refine zr_iload_n hX rfl d_S_indexOf_10 ?_
  refine zr_iadd hX d_S_indexOf_11 ?_
  exact zr_iret hX d_S_indexOf_12 (zD1.i (by unfold s_S_indexOf; rfl))
def s_S_layerOf (p0 : Int32) : Int32 := p0 / 1024
theorem c_S_layerOf (g : zGt) (d : Nat) (G : zG) (p0 : Int32) : zMet g y_S_layerOf b_S_layerOf 1 (some .int) [] d 0 0 [.int p0] G (zD1 (.int (s_S_layerOf p0)) G) := by
  refine zMet.of (by decide) (Nat.le_of_ble_eq_true rfl) rfl (fun X hX => ?_)
  refine zr_iload_n hX rfl d_S_layerOf_0 ?_
  refine zr_sipush (v := 1024) hX rfl d_S_layerOf_1 ?_
  refine zr_idiv hX (by decide) d_S_layerOf_4 ?_
  exact zr_iret hX d_S_layerOf_5 (zD1.i (by unfold s_S_layerOf; rfl))
def s_S_yOf (p0 : Int32) : Int32 := (p0 / 32) - (p0 / 32) / 32 * 32
theorem c_S_yOf (g : zGt) (d : Nat) (G : zG) (p0 : Int32) : zMet g y_S_yOf b_S_yOf 1 (some .int) [] d 0 0 [.int p0] G (zD1 (.int (s_S_yOf p0)) G) := by
  refine zMet.of (by decide) (Nat.le_of_ble_eq_true rfl) rfl (fun X hX => ?_)
  refine zr_iload_n hX rfl d_S_yOf_0 ?_
  refine zr_bipush (v := 32) hX rfl d_S_yOf_1 ?_
  refine zr_idiv hX (by decide) d_S_yOf_3 ?_
  refine zr_bipush (v := 32) hX rfl d_S_yOf_4 ?_
  refine zr_irem hX (by decide) d_S_yOf_6 ?_
  exact zr_iret hX d_S_yOf_7 (zD1.i (by unfold s_S_yOf; rfl))
def s_S_xOf (p0 : Int32) : Int32 := p0 - p0 / 32 * 32
theorem c_S_xOf (g : zGt) (d : Nat) (G : zG) (p0 : Int32) : zMet g y_S_xOf b_S_xOf 1 (some .int) [] d 0 0 [.int p0] G (zD1 (.int (s_S_xOf p0)) G) := by
  refine zMet.of (by decide) (Nat.le_of_ble_eq_true rfl) rfl (fun X hX => ?_)
  refine zr_iload_n hX rfl d_S_xOf_0 ?_
  refine zr_bipush (v := 32) hX rfl d_S_xOf_1 ?_
  refine zr_irem hX (by decide) d_S_xOf_3 ?_
  exact zr_iret hX d_S_xOf_4 (zD1.i (by unfold s_S_xOf; rfl))
def s_S_cellOf (p0 : Int32) (p1 : Int32) : Int64 := (p0.toInt64 <<< ((32 : Int32).toInt64 &&& 63)) ||| p1.toInt64
theorem c_S_cellOf (g : zGt) (d : Nat) (G : zG) (p0 : Int32) (p1 : Int32) : zMet g y_S_cellOf b_S_cellOf 2 (some .long) [] d 0 0 [.int p0, .int p1] G (zD1 (.long (s_S_cellOf p0 p1)) G) := by
  refine zMet.of (by decide) (Nat.le_of_ble_eq_true rfl) rfl (fun X hX => ?_)
  refine zr_iload_n hX rfl d_S_cellOf_0 ?_
  refine zr_i2l hX d_S_cellOf_1 ?_
  refine zr_bipush (v := 32) hX rfl d_S_cellOf_2 ?_
  refine zr_lshl hX d_S_cellOf_4 ?_
  refine zr_iload_n hX rfl d_S_cellOf_5 ?_
  refine zr_i2l hX d_S_cellOf_6 ?_
  refine zr_lor hX d_S_cellOf_7 ?_
  exact zr_lret hX d_S_cellOf_8 (zD1.l (by unfold s_S_cellOf; rfl))
def s_S_valueOf (p0 : Int64) : Int32 := (p0 >>> ((32 : Int32).toInt64 &&& 63)).toInt32
theorem c_S_valueOf (g : zGt) (d : Nat) (G : zG) (p0 : Int64) : zMet g y_S_valueOf b_S_valueOf 2 (some .int) [] d 0 0 [.long p0] G (zD1 (.int (s_S_valueOf p0)) G) := by
  refine zMet.of (by decide) (Nat.le_of_ble_eq_true rfl) rfl (fun X hX => ?_)
  refine zr_lload_n hX rfl d_S_valueOf_0 ?_
  refine zr_bipush (v := 32) hX rfl d_S_valueOf_1 ?_
  refine zr_lshr hX d_S_valueOf_3 ?_
  refine zr_l2i hX d_S_valueOf_4 ?_
  exact zr_iret hX d_S_valueOf_5 (zD1.i (by unfold s_S_valueOf; rfl))
def s_S_originOf (p0 : Int32) (p1 : Int32) : Int32 := (p0 <<< (12 &&& 31)) ||| p1
theorem c_S_originOf (g : zGt) (d : Nat) (G : zG) (p0 : Int32) (p1 : Int32) : zMet g y_S_originOf b_S_originOf 2 (some .int) [] d 0 0 [.int p0, .int p1] G (zD1 (.int (s_S_originOf p0 p1)) G) := by
  refine zMet.of (by decide) (Nat.le_of_ble_eq_true rfl) rfl (fun X hX => ?_)
  refine zr_iload_n hX rfl d_S_originOf_0 ?_
  refine zr_bipush (v := 12) hX rfl d_S_originOf_1 ?_
  refine zr_ishl hX d_S_originOf_3 ?_
  refine zr_iload_n hX rfl d_S_originOf_4 ?_
  refine zr_ior hX d_S_originOf_5 ?_
  exact zr_iret hX d_S_originOf_6 (zD1.i (by unfold s_S_originOf; rfl))
def s_S_originIndexOf (p0 : Int64) : Int32 := p0.toInt32 &&& 4095
theorem c_S_originIndexOf (g : zGt) (d : Nat) (G : zG) (p0 : Int64) : zMet g y_S_originIndexOf b_S_originIndexOf 2 (some .int) [] d 0 0 [.long p0] G (zD1 (.int (s_S_originIndexOf p0)) G) := by
  refine zMet.of (by decide) (Nat.le_of_ble_eq_true rfl) rfl (fun X hX => ?_)
  refine zr_lload_n hX rfl d_S_originIndexOf_0 ?_
  refine zr_l2i hX d_S_originIndexOf_1 ?_
  refine zr_sipush (v := 4095) hX rfl d_S_originIndexOf_2 ?_
  refine zr_iand hX d_S_originIndexOf_5 ?_
  exact zr_iret hX d_S_originIndexOf_6 (zD1.i (by unfold s_S_originIndexOf; rfl))
def s_S_originCommitOf (p0 : Int64) : Int32 := if (s_S_valueOf p0) = (-2147483648) then (-2147483648) else p0.toInt32 >>> (12 &&& 31)
theorem c_S_originCommitOf (g : zGt) (d : Nat) (hd : 1 ≤ d) (G : zG) (p0 : Int64) : zMet g y_S_originCommitOf b_S_originCommitOf 2 (some .int) [] d 0 0 [.long p0] G (zD1 (.int (s_S_originCommitOf p0)) G) := by
  refine zMet.of (by decide) (Nat.le_of_ble_eq_true rfl) rfl (fun X hX => ?_)
  refine zr_lload_n hX rfl d_S_originCommitOf_0 ?_
  refine zr_pS hX (c_S_valueOf g (d - 1) G p0) l_S_142 st_S_valueOf f_S_valueOf rfl (Nat.le_of_ble_eq_true rfl) (by omega) (Nat.le_refl _) (Nat.le_refl _) d_S_originCommitOf_1 ?_
  refine zr_ldc hX q99 d_S_originCommitOf_4 ?_
  refine zr_icmp_ne hX (tgt := 14) d_S_originCommitOf_6 (by decide) (fun h6 => ?_) (fun h6 => ?_)
  · skip
    refine zr_lload_n hX rfl d_S_originCommitOf_14 ?_
    refine zr_l2i hX d_S_originCommitOf_15 ?_
    refine zr_bipush (v := 12) hX rfl d_S_originCommitOf_16 ?_
    refine zr_ishr hX d_S_originCommitOf_18 ?_
    exact zr_iret hX d_S_originCommitOf_19 (zD1.i (by unfold s_S_originCommitOf; rw [if_neg h6]))
  · skip
    refine zr_ldc hX q99 d_S_originCommitOf_9 ?_
    refine zr_goto hX (tgt := 19) (by decide) d_S_originCommitOf_11 ?_
    exact zr_iret hX d_S_originCommitOf_19 (zD1.i (by unfold s_S_originCommitOf; rw [if_pos h6]))
def s_S_isConflict (p0 : Int32) (p1 : Int32) (p2 : Int32) : Int32 := if p0 = p2 then 0 else if p1 = p2 then 0 else if p0 = p1 then 0 else 1
theorem c_S_isConflict (g : zGt) (d : Nat) (G : zG) (p0 : Int32) (p1 : Int32) (p2 : Int32) : zMet g y_S_isConflict b_S_isConflict 3 (some .boolean) [] d 0 0 [.int p0, .int p1, .int p2] G (zD1 (.int (s_S_isConflict p0 p1 p2)) G) := by
  refine zMet.of (by decide) (Nat.le_of_ble_eq_true rfl) rfl (fun X hX => ?_)
  refine zr_iload_n hX rfl d_S_isConflict_0 ?_
  refine zr_iload_n hX rfl d_S_isConflict_1 ?_
  refine zr_icmp_eq hX (tgt := 19) d_S_isConflict_2 (by decide) (fun h2 => ?_) (fun h2 => ?_)
  · skip
    refine zr_iconst (v := 0) hX rfl d_S_isConflict_19 ?_
    exact zr_zret hX rfl d_S_isConflict_20 (zD1.i (by unfold s_S_isConflict; rw [if_pos h2]))
  · skip
    refine zr_iload_n hX rfl d_S_isConflict_5 ?_
    refine zr_iload_n hX rfl d_S_isConflict_6 ?_
    refine zr_icmp_eq hX (tgt := 19) d_S_isConflict_7 (by decide) (fun h7 => ?_) (fun h7 => ?_)
    · skip
      refine zr_iconst (v := 0) hX rfl d_S_isConflict_19 ?_
      exact zr_zret hX rfl d_S_isConflict_20 (zD1.i (by unfold s_S_isConflict; rw [if_neg h2, if_pos h7]))
    · skip
      refine zr_iload_n hX rfl d_S_isConflict_10 ?_
      refine zr_iload_n hX rfl d_S_isConflict_11 ?_
      refine zr_icmp_eq hX (tgt := 19) d_S_isConflict_12 (by decide) (fun h12 => ?_) (fun h12 => ?_)
      · skip
        refine zr_iconst (v := 0) hX rfl d_S_isConflict_19 ?_
        exact zr_zret hX rfl d_S_isConflict_20 (zD1.i (by unfold s_S_isConflict; rw [if_neg h2, if_neg h7, if_pos h12]))
      · skip
        refine zr_iconst (v := 1) hX rfl d_S_isConflict_15 ?_
        refine zr_goto hX (tgt := 20) (by decide) d_S_isConflict_16 ?_
        exact zr_zret hX rfl d_S_isConflict_20 (zD1.i (by unfold s_S_isConflict; rw [if_neg h2, if_neg h7, if_neg h12]))
def s_M_isLayer (p0 : Int32) : Int32 := if p0 < 0 then 0 else if 4 ≤ p0 then 0 else 1
theorem c_M_isLayer (g : zGt) (d : Nat) (G : zG) (p0 : Int32) : zMet g y_M_isLayer b_M_isLayer 1 (some .boolean) [] d 0 0 [.int p0] G (zD1 (.int (s_M_isLayer p0)) G) := by
  refine zMet.of (by decide) (Nat.le_of_ble_eq_true rfl) rfl (fun X hX => ?_)
  refine zr_iload_n hX rfl d_M_isLayer_0 ?_
  refine zr_if_lt hX (tgt := 13) d_M_isLayer_1 (by decide) (fun h1 => ?_) (fun h1 => ?_)
  · skip
    refine zr_iconst (v := 0) hX rfl d_M_isLayer_13 ?_
    exact zr_zret hX rfl d_M_isLayer_14 (zD1.i (by unfold s_M_isLayer; rw [if_pos h1]))
  · skip
    refine zr_iload_n hX rfl d_M_isLayer_4 ?_
    refine zr_iconst (v := 4) hX rfl d_M_isLayer_5 ?_
    refine zr_icmp_ge hX (tgt := 13) d_M_isLayer_6 (by decide) (fun h6 => ?_) (fun h6 => ?_)
    · skip
      refine zr_iconst (v := 0) hX rfl d_M_isLayer_13 ?_
      exact zr_zret hX rfl d_M_isLayer_14 (zD1.i (by unfold s_M_isLayer; rw [if_neg h1, if_pos h6]))
    · skip
      refine zr_iconst (v := 1) hX rfl d_M_isLayer_9 ?_
      refine zr_goto hX (tgt := 14) (by decide) d_M_isLayer_10 ?_
      exact zr_zret hX rfl d_M_isLayer_14 (zD1.i (by unfold s_M_isLayer; rw [if_neg h1, if_neg h6]))
def s_M_isValue (p0 : Int32) : Int32 := if p0 = (-2147483648) then 1 else if p0 < (-1000000) then 0 else if 1000000 < p0 then 0 else 1
theorem c_M_isValue (g : zGt) (d : Nat) (G : zG) (p0 : Int32) : zMet g y_M_isValue b_M_isValue 1 (some .boolean) [] d 0 0 [.int p0] G (zD1 (.int (s_M_isValue p0)) G) := by
  refine zMet.of (by decide) (Nat.le_of_ble_eq_true rfl) rfl (fun X hX => ?_)
  refine zr_iload_n hX rfl d_M_isValue_0 ?_
  refine zr_ldc hX q652 d_M_isValue_1 ?_
  refine zr_icmp_eq hX (tgt := 18) d_M_isValue_3 (by decide) (fun h3 => ?_) (fun h3 => ?_)
  · skip
    refine zr_iconst (v := 1) hX rfl d_M_isValue_18 ?_
    refine zr_goto hX (tgt := 23) (by decide) d_M_isValue_19 ?_
    exact zr_zret hX rfl d_M_isValue_23 (zD1.i (by unfold s_M_isValue; rw [if_pos h3]))
  · skip
    refine zr_iload_n hX rfl d_M_isValue_6 ?_
    refine zr_ldc hX q780 d_M_isValue_7 ?_
    refine zr_icmp_lt hX (tgt := 22) d_M_isValue_9 (by decide) (fun h9 => ?_) (fun h9 => ?_)
    · skip
      refine zr_iconst (v := 0) hX rfl d_M_isValue_22 ?_
      exact zr_zret hX rfl d_M_isValue_23 (zD1.i (by unfold s_M_isValue; rw [if_neg h3, if_pos h9]))
    · skip
      refine zr_iload_n hX rfl d_M_isValue_12 ?_
      refine zr_ldc hX q781 d_M_isValue_13 ?_
      refine zr_icmp_gt hX (tgt := 22) d_M_isValue_15 (by decide) (fun h15 => ?_) (fun h15 => ?_)
      · skip
        refine zr_iconst (v := 0) hX rfl d_M_isValue_22 ?_
        exact zr_zret hX rfl d_M_isValue_23 (zD1.i (by unfold s_M_isValue; rw [if_neg h3, if_neg h9, if_pos h15]))
      · skip
        refine zr_iconst (v := 1) hX rfl d_M_isValue_18 ?_
        refine zr_goto hX (tgt := 23) (by decide) d_M_isValue_19 ?_
        exact zr_zret hX rfl d_M_isValue_23 (zD1.i (by unfold s_M_isValue; rw [if_neg h3, if_neg h9, if_neg h15]))
def s_M_cellOf (p0 : Int32) (p1 : Int32) (p2 : Int32) : Int32 := ((1024 * p0) + (32 * p2)) + p1
theorem c_M_cellOf (g : zGt) (d : Nat) (G : zG) (p0 : Int32) (p1 : Int32) (p2 : Int32) : zMet g y_M_cellOf b_M_cellOf 3 (some .int) [] d 0 0 [.int p0, .int p1, .int p2] G (zD1 (.int (s_M_cellOf p0 p1 p2)) G) := by
  refine zMet.of (by decide) (Nat.le_of_ble_eq_true rfl) rfl (fun X hX => ?_)
  refine zr_sipush (v := 1024) hX rfl d_M_cellOf_0 ?_
  refine zr_iload_n hX rfl d_M_cellOf_3 ?_
  refine zr_imul hX d_M_cellOf_4 ?_
  refine zr_bipush (v := 32) hX rfl d_M_cellOf_5 ?_
  refine zr_iload_n hX rfl d_M_cellOf_7 ?_
  refine zr_imul hX d_M_cellOf_8 ?_
  refine zr_iadd hX d_M_cellOf_9 ?_
  refine zr_iload_n hX rfl d_M_cellOf_10 ?_
  refine zr_iadd hX d_M_cellOf_11 ?_
  exact zr_iret hX d_M_cellOf_12 (zD1.i (by unfold s_M_cellOf; rfl))
end
section
/-! the store's cells, as they are read -/
def zS (a : Nat → Nat) (i : Nat → Int32) (bt : Value) : List Value := [.ref (a 0), .ref (a 1), .int (i 2), .ref (a 3), .int (i 4), .int (i 5), .int (i 6), .int (i 7), .ref (a 8), .ref (a 9), .ref (a 10), .ref (a 11), .ref (a 12), bt]
abbrev zV : Type := (Nat → Nat) × (Nat → Int32) × Value × (Nat → Option Nat) × (Nat → Int32) × (Nat → Int32) × (Nat → Int32) × (Nat → Nat) × (Nat → Nat → Int64) × (Nat → Option Nat) × (Nat → Nat) × (Nat → Int32) × (Nat → Int32) × (Nat → Int32) × (Nat → Option Nat) × (Nat → Nat → Int64) × (Nat → Nat → Int32)
/-- where the store's arrays lie, by their field -/
abbrev zV.a (v : zV) : Nat → Nat := v.1
/-- its numbers, by their field: 2 made, 4 .. 7 the region -/
abbrev zV.i (v : zV) : Nat → Int32 := v.2.1
abbrev zV.bt (v : zV) : Value := v.2.2.1
/-- commits: object, first parent, second parent, ancestors, where the cells lie, the cells -/
abbrev zV.fc (v : zV) : Nat → Option Nat := v.2.2.2.1
abbrev zV.p1 (v : zV) : Nat → Int32 := v.2.2.2.2.1
abbrev zV.p2 (v : zV) : Nat → Int32 := v.2.2.2.2.2.1
abbrev zV.an (v : zV) : Nat → Int32 := v.2.2.2.2.2.2.1
abbrev zV.cc (v : zV) : Nat → Nat := v.2.2.2.2.2.2.2.1
abbrev zV.cf (v : zV) : Nat → Nat → Int64 := v.2.2.2.2.2.2.2.2.1
/-- branches: object, where the cells lie, there, head, merging, conflicts, the cells -/
abbrev zV.fb (v : zV) : Nat → Option Nat := v.2.2.2.2.2.2.2.2.2.1
abbrev zV.bc (v : zV) : Nat → Nat := v.2.2.2.2.2.2.2.2.2.2.1
abbrev zV.th (v : zV) : Nat → Int32 := v.2.2.2.2.2.2.2.2.2.2.2.1
abbrev zV.hd (v : zV) : Nat → Int32 := v.2.2.2.2.2.2.2.2.2.2.2.2.1
abbrev zV.mg (v : zV) : Nat → Int32 := v.2.2.2.2.2.2.2.2.2.2.2.2.2.1
abbrev zV.kf (v : zV) : Nat → Option Nat := v.2.2.2.2.2.2.2.2.2.2.2.2.2.2.1
abbrev zV.bf (v : zV) : Nat → Nat → Int64 := v.2.2.2.2.2.2.2.2.2.2.2.2.2.2.2.1
/-- the store's own arrays of ints: 0 kinds, 8 and 9 the corners, 10 and 11 the entries -/
abbrev zV.ar (v : zV) : Nat → Nat → Int32 := v.2.2.2.2.2.2.2.2.2.2.2.2.2.2.2.2
def zCm (v : zV) (c : Nat) : zC := zO 1 [.int (v.p1 c), .int (v.p2 c), .int (v.an c), .ref (v.cc c)]
def zBm (v : zV) (b : Nat) : zC := zO 2 [.ref (v.bc b), .int (v.th b), .int (v.hd b), .int (v.mg b), va_rf (v.kf b)]
def zSv (v : zV) (x : Nat) (G : zG) : Prop := G x = some (zO 0 (zS v.a v.i v.bt)) ∧ G (v.a 1) = some (zR 3 24 v.fc) ∧ G (v.a 3) = some (zR 4 4 v.fb) ∧
  (∀ c, c < 24 → ∀ q, v.fc c = some q → G q = some (zCm v c) ∧ G (v.cc c) = some (zJ 4096 (v.cf c))) ∧
  (∀ b, b < 4 → ∀ q, v.fb b = some q → G q = some (zBm v b) ∧ G (v.bc b) = some (zJ 4096 (v.bf b))) ∧
  G (v.a 0) = some (zI 4 (v.ar 0)) ∧ G (v.a 8) = some (zI 6 (v.ar 8)) ∧ G (v.a 9) = some (zI 6 (v.ar 9)) ∧ G (v.a 10) = some (zI 8 (v.ar 10)) ∧ G (v.a 11) = some (zI 8 (v.ar 11))
theorem zSv.x {v : zV} {x : Nat} {G : zG} (h : zSv v x G) : G x = some (zO 0 (zS v.a v.i v.bt)) := h.1
theorem zSv.co {v : zV} {x : Nat} {G : zG} (h : zSv v x G) : G (v.a 1) = some (zR 3 24 v.fc) := h.2.1
theorem zSv.br {v : zV} {x : Nat} {G : zG} (h : zSv v x G) : G (v.a 3) = some (zR 4 4 v.fb) := h.2.2.1
theorem zSv.cm {v : zV} {x : Nat} {G : zG} (h : zSv v x G) {c q : Nat} (hc : c < 24) (hq : v.fc c = some q) : G q = some (zCm v c) := (h.2.2.2.1 c hc q hq).1
theorem zSv.cj {v : zV} {x : Nat} {G : zG} (h : zSv v x G) {c q : Nat} (hc : c < 24) (hq : v.fc c = some q) : G (v.cc c) = some (zJ 4096 (v.cf c)) := (h.2.2.2.1 c hc q hq).2
theorem zSv.bm {v : zV} {x : Nat} {G : zG} (h : zSv v x G) {c q : Nat} (hc : c < 4) (hq : v.fb c = some q) : G q = some (zBm v c) := (h.2.2.2.2.1 c hc q hq).1
theorem zSv.bj {v : zV} {x : Nat} {G : zG} (h : zSv v x G) {c q : Nat} (hc : c < 4) (hq : v.fb c = some q) : G (v.bc c) = some (zJ 4096 (v.bf c)) := (h.2.2.2.2.1 c hc q hq).2
theorem zSv.a0 {v : zV} {x : Nat} {G : zG} (h : zSv v x G) : G (v.a 0) = some (zI 4 (v.ar 0)) := h.2.2.2.2.2.1
theorem zSv.a8 {v : zV} {x : Nat} {G : zG} (h : zSv v x G) : G (v.a 8) = some (zI 6 (v.ar 8)) := h.2.2.2.2.2.2.1
theorem zSv.a9 {v : zV} {x : Nat} {G : zG} (h : zSv v x G) : G (v.a 9) = some (zI 6 (v.ar 9)) := h.2.2.2.2.2.2.2.1
theorem zSv.a10 {v : zV} {x : Nat} {G : zG} (h : zSv v x G) : G (v.a 10) = some (zI 8 (v.ar 10)) := h.2.2.2.2.2.2.2.2.1
theorem zSv.a11 {v : zV} {x : Nat} {G : zG} (h : zSv v x G) : G (v.a 11) = some (zI 8 (v.ar 11)) := h.2.2.2.2.2.2.2.2.2
/-- an index between 0 and n -/
theorem zix {x z : Int32} {n : Nat} (h0 : ¬ x < 0) (h1 : ¬ z ≤ x) (hz : z.toInt = n) : vp_in x n := by
  rw [vp_in_iff]
  rw [Int32.lt_iff_toInt_lt, Int32.toInt_zero] at h0
  rw [Int32.le_iff_toInt_le, hz] at h1
  omega
theorem zcl_of {x z : Int32} {n : Nat} (h0 : ¬ x < 0) (h1 : ¬ z ≤ x) (hz : z.toInt = n) (hn : n < 2 ^ 31) : x.toNatClampNeg < n ∧ x = nI x.toNatClampNeg := by
  obtain ⟨j, hj, e⟩ := vp_in_of (zix h0 h1 hz) hn
  rw [e, nI_clamp (by omega)]
  exact ⟨hj, rfl⟩
/-- the commit's object, if p is the number of one -/
def zcmt (v : zV) (p : Int32) : Option Nat := if p < 0 then none else if 24 ≤ p then none else v.fc p.toNatClampNeg
theorem zcmt_some {v : zV} {p : Int32} {q : Nat} (h : zcmt v p = some q) : p.toNatClampNeg < 24 ∧ p = nI p.toNatClampNeg ∧ v.fc p.toNatClampNeg = some q := by
  unfold zcmt at h
  split at h
  · cases h
  · rename_i h1
    split at h
    · cases h
    · rename_i h2
      obtain ⟨h3, h4⟩ := zcl_of (n := 24) h1 h2 rfl (by decide)
      exact ⟨h3, h4, h⟩
def zbra (v : zV) (p : Int32) : Option Nat := if p < 0 then none else if 4 ≤ p then none else match v.fb p.toNatClampNeg with
  | none => none
  | some q => if v.th p.toNatClampNeg = 0 then none else some q
theorem zbra_some {v : zV} {p : Int32} {q : Nat} (h : zbra v p = some q) : p.toNatClampNeg < 4 ∧ p = nI p.toNatClampNeg ∧ v.fb p.toNatClampNeg = some q ∧ ¬ v.th p.toNatClampNeg = 0 := by
  unfold zbra at h
  split at h
  · cases h
  · rename_i h1
    split at h
    · cases h
    · rename_i h2
      obtain ⟨h3, h4⟩ := zcl_of (n := 4) h1 h2 rfl (by decide)
      split at h
      · cases h
      · rename_i q' hq
        split at h
        · cases h
        · cases h
          exact ⟨h3, h4, hq, by assumption⟩
def zbop (v : zV) (p : Int32) : Option Nat := if 24 ≤ p then zbra v (p - 24) else none
/-- where the cells of a place lie -/
def zcel (v : zV) (p : Int32) : Option Nat := match zcmt v p with
  | some _ => some (v.cc p.toNatClampNeg)
  | none => match zbop v p with
    | some _ => some (v.bc (p - 24).toNatClampNeg)
    | none => none

theorem c_S_commitAt (g : zGt) (d : Nat) (G : zG) (v : zV) (x : Nat) (h : zSv v x G) (p : Int32) : zMet g y_S_commitAt b_S_commitAt 2 (some (.object "SurveyStore$Commit")) [] d 0 0 [.ref x, .int p] G (zD1 (va_rf (zcmt v p)) G) := by
  refine zMet.of (by decide) (Nat.le_of_ble_eq_true rfl) rfl (fun X hX => ?_)
  refine zr_iload_n hX rfl d_S_commitAt_0 ?_
  refine zr_if_lt hX (tgt := 19) d_S_commitAt_1 (by decide) (fun h1 => ?_) (fun h1 => ?_)
  · skip
    refine zr_null hX d_S_commitAt_19 ?_
    exact zr_rret hX rfl (Or.inl ⟨_, rfl⟩) rfl d_S_commitAt_20 (zD1.v (by unfold zcmt; rw [if_pos h1]; rfl))
  · skip
    refine zr_iload_n hX rfl d_S_commitAt_4 ?_
    refine zr_bipush (v := 24) hX rfl d_S_commitAt_5 ?_
    refine zr_icmp_ge hX (tgt := 19) d_S_commitAt_7 (by decide) (fun h7 => ?_) (fun h7 => ?_)
    · skip
      refine zr_null hX d_S_commitAt_19 ?_
      exact zr_rret hX rfl (Or.inl ⟨_, rfl⟩) rfl d_S_commitAt_20 (zD1.v (by unfold zcmt; rw [if_neg h1, if_pos h7]; rfl))
    · skip
      refine zr_aload_n hX rfl d_S_commitAt_10 ?_
      refine zr_get hX k_S 1 (by decide) q104 rfl h.x rfl d_S_commitAt_11 ?_
      refine zr_iload_n hX rfl d_S_commitAt_14 ?_
      refine zr_aald hX rfl h.co (zix h1 h7 rfl) d_S_commitAt_15 ?_
      refine zr_goto hX (tgt := 20) (by decide) d_S_commitAt_16 ?_
      exact zr_rret hX rfl (Or.inl ⟨_, rfl⟩) (zisr_rf _) d_S_commitAt_20 (zD1.v (by unfold zcmt; rw [if_neg h1, if_neg h7]))
theorem c_S_branchAt (g : zGt) (d : Nat) (G : zG) (v : zV) (x : Nat) (h : zSv v x G) (p : Int32) : zMet g y_S_branchAt b_S_branchAt 2 (some (.object "SurveyStore$Branch")) [] d 0 0 [.ref x, .int p] G (zD1 (va_rf (zbra v p)) G) := by
  refine zMet.of (by decide) (Nat.le_of_ble_eq_true rfl) rfl (fun X hX => ?_)
  refine zr_iload_n hX rfl d_S_branchAt_0 ?_
  refine zr_if_lt hX (tgt := 30) d_S_branchAt_1 (by decide) (fun h1 => ?_) (fun h1 => ?_)
  · skip
    refine zr_null hX d_S_branchAt_30 ?_
    exact zr_rret hX rfl (Or.inl ⟨_, rfl⟩) rfl d_S_branchAt_31 (zD1.v (by unfold zbra; rw [if_pos h1]; rfl))
  · skip
    refine zr_iload_n hX rfl d_S_branchAt_4 ?_
    refine zr_iconst (v := 4) hX rfl d_S_branchAt_5 ?_
    refine zr_icmp_ge hX (tgt := 30) d_S_branchAt_6 (by decide) (fun h6 => ?_) (fun h6 => ?_)
    · skip
      refine zr_null hX d_S_branchAt_30 ?_
      exact zr_rret hX rfl (Or.inl ⟨_, rfl⟩) rfl d_S_branchAt_31 (zD1.v (by unfold zbra; rw [if_neg h1, if_pos h6]; rfl))
    · skip
      refine zr_aload_n hX rfl d_S_branchAt_9 ?_
      refine zr_get hX k_S 3 (by decide) q106 rfl h.x rfl d_S_branchAt_10 ?_
      refine zr_iload_n hX rfl d_S_branchAt_13 ?_
      refine zr_aald hX rfl h.br (zix h1 h6 rfl) d_S_branchAt_14 ?_
      cases hq : v.fb p.toNatClampNeg with
      | none =>
        refine zr_ifnullN hX (tgt := 30) (by decide) d_S_branchAt_15 ?_
        refine zr_null hX d_S_branchAt_30 ?_
        exact zr_rret hX rfl (Or.inl ⟨_, rfl⟩) rfl d_S_branchAt_31 (zD1.v (by unfold zbra; rw [if_neg h1, if_neg h6, hq]; rfl))
      | some q =>
        refine zr_ifnull hX d_S_branchAt_15 ?_
        refine zr_aload_n hX rfl d_S_branchAt_18 ?_
        refine zr_get hX k_S 3 (by decide) q106 rfl h.x rfl d_S_branchAt_19 ?_
        refine zr_iload_n hX rfl d_S_branchAt_22 ?_
        refine zr_aald hX rfl h.br (zix h1 h6 rfl) d_S_branchAt_23 ?_
        rw [hq]
        refine zr_get hX k_B 1 (by decide) q66 rfl (h.bm (zcl_of (n := 4) h1 h6 rfl (by decide)).1 hq) rfl d_S_branchAt_24 ?_
        refine zr_if_ne hX (tgt := 32) d_S_branchAt_27 (by decide) (fun h27 => ?_) (fun h27 => ?_)
        · skip
          refine zr_aload_n hX rfl d_S_branchAt_32 ?_
          refine zr_get hX k_S 3 (by decide) q106 rfl h.x rfl d_S_branchAt_33 ?_
          refine zr_iload_n hX rfl d_S_branchAt_36 ?_
          refine zr_aald hX rfl h.br (zix h1 h6 rfl) d_S_branchAt_37 ?_
          rw [hq]
          exact zr_rret hX rfl (Or.inl ⟨_, rfl⟩) rfl d_S_branchAt_38 (zD1.v (by unfold zbra; rw [if_neg h1, if_neg h6, hq]; show _ = va_rf (if v.th p.toNatClampNeg = 0 then none else some q); rw [if_neg h27] <;> rfl))
        · skip
          refine zr_null hX d_S_branchAt_30 ?_
          exact zr_rret hX rfl (Or.inl ⟨_, rfl⟩) rfl d_S_branchAt_31 (zD1.v (by unfold zbra; rw [if_neg h1, if_neg h6, hq]; show _ = va_rf (if v.th p.toNatClampNeg = 0 then none else some q); rw [if_pos h27] <;> rfl))
theorem c_S_branchOfPlace (g : zGt) (d : Nat) (G : zG) (v : zV) (x : Nat) (h : zSv v x G) (p : Int32) (hd : 1 ≤ d) : zMet g y_S_branchOfPlace b_S_branchOfPlace 2 (some (.object "SurveyStore$Branch")) [] d 0 0 [.ref x, .int p] G (zD1 (va_rf (zbop v p)) G) := by
  refine zMet.of (by decide) (Nat.le_of_ble_eq_true rfl) rfl (fun X hX => ?_)
  refine zr_iload_n hX rfl d_S_branchOfPlace_0 ?_
  refine zr_bipush (v := 24) hX rfl d_S_branchOfPlace_1 ?_
  refine zr_icmp_ge hX (tgt := 10) d_S_branchOfPlace_3 (by decide) (fun h3 => ?_) (fun h3 => ?_)
  · skip
    refine zr_aload_n hX rfl d_S_branchOfPlace_10 ?_
    refine zr_iload_n hX rfl d_S_branchOfPlace_11 ?_
    refine zr_bipush (v := 24) hX rfl d_S_branchOfPlace_12 ?_
    refine zr_isub hX d_S_branchOfPlace_14 ?_
    refine zr_pV hX (c_S_branchAt g (d - 1) _ v x h _) l_S_84 im_S_branchAt se_S_branchAt f_S_branchAt k_S.1 h.x rfl (Nat.le_of_ble_eq_true rfl) (by omega) (Nat.le_refl _) (Nat.le_refl _) d_S_branchOfPlace_15 ?_
    exact zr_rret hX rfl (Or.inl ⟨_, rfl⟩) (zisr_rf _) d_S_branchOfPlace_18 (zD1.v (by unfold zbop; rw [if_pos h3]))
  · skip
    refine zr_null hX d_S_branchOfPlace_6 ?_
    refine zr_goto hX (tgt := 18) (by decide) d_S_branchOfPlace_7 ?_
    exact zr_rret hX rfl (Or.inl ⟨_, rfl⟩) rfl d_S_branchOfPlace_18 (zD1.v (by unfold zbop; rw [if_neg h3]; rfl))
theorem c_S_cellsOf (g : zGt) (d : Nat) (G : zG) (v : zV) (x : Nat) (h : zSv v x G) (p : Int32) (hd : 2 ≤ d) : zMet g y_S_cellsOf b_S_cellsOf 4 (some (.array .long)) [] d 0 0 [.ref x, .int p] G (zD1 (va_rf (zcel v p)) G) := by
  refine zMet.of (by decide) (Nat.le_of_ble_eq_true rfl) rfl (fun X hX => ?_)
  refine zr_aload_n hX rfl d_S_cellsOf_0 ?_
  refine zr_iload_n hX rfl d_S_cellsOf_1 ?_
  refine zr_pV hX (c_S_commitAt g (d - 1) _ v x h _) l_S_77 im_S_commitAt se_S_commitAt f_S_commitAt k_S.1 h.x rfl (Nat.le_of_ble_eq_true rfl) (by omega) (Nat.le_refl _) (Nat.le_refl _) d_S_cellsOf_2 ?_
  cases hq : zcmt v p with
  | none =>
    refine zr_astore_nN hX (by decide) d_S_cellsOf_5 ?_
    refine zr_aload_nN hX rfl d_S_cellsOf_6 ?_
    refine zr_ifnullN hX (tgt := 15) (by decide) d_S_cellsOf_7 ?_
    refine zr_aload_n hX rfl d_S_cellsOf_15 ?_
    refine zr_iload_n hX rfl d_S_cellsOf_16 ?_
    refine zr_pV hX (c_S_branchOfPlace g (d - 1) _ v x h _ (by omega)) l_S_267 im_S_branchOfPlace se_S_branchOfPlace f_S_branchOfPlace k_S.1 h.x rfl (Nat.le_of_ble_eq_true rfl) (by omega) (Nat.le_refl _) (Nat.le_refl _) d_S_cellsOf_17 ?_
    cases hr : zbop v p with
    | none =>
      refine zr_astore_nN hX (by decide) d_S_cellsOf_20 ?_
      refine zr_aload_nN hX rfl d_S_cellsOf_21 ?_
      refine zr_ifnonnullN hX d_S_cellsOf_22 ?_
      refine zr_null hX d_S_cellsOf_25 ?_
      refine zr_goto hX (tgt := 33) (by decide) d_S_cellsOf_26 ?_
      exact zr_rret hX rfl (Or.inr ⟨_, rfl⟩) rfl d_S_cellsOf_33 (zD1.v (by unfold zcel; rw [hq, hr]; rfl))
    | some r =>
      have hr2 : zbra v (p - 24) = some r := by
        unfold zbop at hr; split at hr
        · exact hr
        · cases hr
      refine zr_astore_n hX (by decide) d_S_cellsOf_20 ?_
      refine zr_aload_n hX rfl d_S_cellsOf_21 ?_
      refine zr_ifnonnull hX (tgt := 29) (by decide) d_S_cellsOf_22 ?_
      refine zr_aload_n hX rfl d_S_cellsOf_29 ?_
      refine zr_get hX k_B 0 (by decide) q64 rfl (h.bm (zbra_some hr2).1 (zbra_some hr2).2.2.1) rfl d_S_cellsOf_30 ?_
      exact zr_rret hX rfl (Or.inr ⟨_, rfl⟩) rfl d_S_cellsOf_33 (zD1.v (by unfold zcel; rw [hq, hr]; rfl))
  | some q =>
    refine zr_astore_n hX (by decide) d_S_cellsOf_5 ?_
    refine zr_aload_n hX rfl d_S_cellsOf_6 ?_
    refine zr_ifnull hX d_S_cellsOf_7 ?_
    refine zr_aload_n hX rfl d_S_cellsOf_10 ?_
    refine zr_get hX k_C 3 (by decide) q46 rfl (h.cm (zcmt_some hq).1 (zcmt_some hq).2.2) rfl d_S_cellsOf_11 ?_
    exact zr_rret hX rfl (Or.inr ⟨_, rfl⟩) rfl d_S_cellsOf_14 (zD1.v (by unfold zcel; rw [hq] <;> rfl))
end
